set_option maxHeartbeats 4000000 in
theorem c_X3_isIn {Y : Lx} {o : Nat → Nat} {hn : Nat} {M : Mem} {G : Mel} {t0 : Nat} {x1 : Int32} {rr : Int32} (ht0 : tb hn t0) (hE : s_X3_isIn M t0 x1 = some (rr)) : MI Y yX3_isIn cX3_isIn 2 (some .boolean) 1 23 0 0 [.ref (o t0), .int x1] o hn M G (.inl (some (.int rr))) M G := by
  refine MI.of (by decide +kernel) (Nat.le_of_ble_eq_true rfl) (fun X hY hX hE0 hR => ?_)
  change CxOK X RX3 cX3_isIn 2 1 23 0 0 (some .boolean) at hX
  show WM X o hn M G 0 0 0 2 [(0, .ref (o t0)), (1, .int x1)] []
  unfold s_X3_isIn at hE
  refine q_aload_n (pc := 0) hX 0 rfl rfl dX3_isIn_0 ?_
  refine q_iload_n (pc := 1) hX 1 rfl rfl dX3_isIn_1 ?_
  refine q_iconst (pc := 2) hX (1) rfl dX3_isIn_2 ?_
  obtain ⟨r1, hr1, hE⟩ := ob_bind hE
  refine q_callV (pc := 3) (id := t0) (As := [.int x1, .int 1]) (rest := []) (rv := some (.int r1)) (st' := [.int r1]) hX (c_X4_get ht0 hr1) (vl_X3_42) (tb_lt ht0) (ob_T ht0.1 _ _) rfl rfl pd_yX4_get rfl ⟨by decide, by decide⟩ ⟨Nat.le_of_ble_eq_true rfl, Nat.le_of_ble_eq_true rfl⟩ rfl (Nat.le_of_ble_eq_true rfl) rfl dX3_isIn_3 ?_
  refine q_iconst (pc := 6) hX (1) rfl dX3_isIn_6 ?_
  refine q_icmp_ne (pc := 7) hX 14 (by decide) dX3_isIn_7 (fun c => ?_) (fun c => ?_)
  · rw [if_neg c] at hE
    refine q_iconst (pc := 14) hX (0) rfl dX3_isIn_14 ?_
    cases hE
    exact q_zret hX (Or.inl rfl) hR (by decide) (by decide) dX3_isIn_15
  · rw [if_pos c] at hE
    refine q_iconst (pc := 10) hX (1) rfl dX3_isIn_10 ?_
    refine q_goto (pc := 11) hX 15 (by decide) dX3_isIn_11 ?_
    cases hE
    exact q_zret hX (Or.inr rfl) hR (by decide) (by decide) dX3_isIn_15

set_option maxHeartbeats 4000000 in
theorem c_X3_addFromIn {Y : Lx} {o : Nat → Nat} {hn : Nat} {M : Mem} {G : Mel} {t1 : Nat} {x2 : Int32} {Mr : Mem} (ht1 : tb hn t1) (hE : s_X3_addFromIn M t1 x2 = some (Mr)) : MI Y yX3_addFromIn cX3_addFromIn 6 none 2 47 0 0 [.ref (o 43), .ref (o t1), .int x2] o hn M G (.inl (none)) Mr G := by
  refine MI.of (by decide +kernel) (Nat.le_of_ble_eq_true rfl) (fun X hY hX hE0 hR => ?_)
  change CxOK X RX3 cX3_addFromIn 6 2 47 0 0 none at hX
  show WM X o hn M G 0 0 0 6 [(0, .ref (o 43)), (1, .ref (o t1)), (2, .int x2)] []
  unfold s_X3_addFromIn at hE
  refine q_aload_n (pc := 0) hX 1 rfl rfl dX3_addFromIn_0 ?_
  refine q_iload_n (pc := 1) hX 2 rfl rfl dX3_addFromIn_1 ?_
  refine q_iconst (pc := 2) hX (0) rfl dX3_addFromIn_2 ?_
  obtain ⟨r1, hr1, hE⟩ := ob_bind hE
  refine q_callV (pc := 3) (id := t1) (As := [.int x2, .int 0]) (rest := []) (rv := some (.int r1)) (st' := [.int r1]) hX (c_X4_get ht1 hr1) (vl_X3_42) (tb_lt ht1) (ob_T ht1.1 _ _) rfl rfl pd_yX4_get rfl ⟨by decide, by decide⟩ ⟨Nat.le_of_ble_eq_true rfl, Nat.le_of_ble_eq_true rfl⟩ rfl (Nat.le_of_ble_eq_true rfl) rfl dX3_addFromIn_3 ?_
  refine q_istore_n (pc := 6) (lo' := [(0, .ref (o 43)), (1, .ref (o t1)), (2, .int x2), (3, .int r1)]) hX [1, 2, 3, 0] rfl (by decide) rfl dX3_addFromIn_6 ?_
  refine q_iload_n (pc := 7) hX 2 rfl rfl dX3_addFromIn_7 ?_
  refine q_iconst (pc := 8) hX (1) rfl dX3_addFromIn_8 ?_
  refine q_iadd (pc := 9) hX dX3_addFromIn_9 ?_
  refine q_aload_n (pc := 10) hX 1 rfl rfl dX3_addFromIn_10 ?_
  obtain ⟨r2, hr2, hE⟩ := ob_bind hE
  refine q_callV (pc := 11) (id := t1) (As := []) (rest := [.int (x2 + 1)]) (rv := some (.int r2)) (st' := [.int r2, .int (x2 + 1)]) hX (c_X4_size ht1 hr2) (vl_X3_27) (tb_lt ht1) (ob_T ht1.1 _ _) rfl rfl pd_yX4_size rfl ⟨by decide, by decide⟩ ⟨Nat.le_of_ble_eq_true rfl, Nat.le_of_ble_eq_true rfl⟩ rfl (Nat.le_of_ble_eq_true rfl) rfl dX3_addFromIn_11 ?_
  obtain ⟨p4, hp4, hE⟩ := bnd_ob hE
  suffices Jp4 : WM X o hn M G 0 0 22 6 [(0, .ref (o 43)), (1, .ref (o t1)), (2, .int x2), (3, .int r1)] [.int p4] by
    refine q_icmp_lt (pc := 14) hX 21 (by decide) dX3_addFromIn_14 (fun c => ?_) (fun c => ?_)
    · rw [if_pos c] at hp4
      refine q_iconst (pc := 21) hX (0) rfl dX3_addFromIn_21 ?_
      cases hp4
      exact Jp4
    · rw [if_neg c] at hp4
      refine q_iconst (pc := 17) hX (1) rfl dX3_addFromIn_17 ?_
      refine q_goto (pc := 18) hX 22 (by decide) dX3_addFromIn_18 ?_
      cases hp4
      exact Jp4
  refine q_istore (pc := 22) (lo' := [(0, .ref (o 43)), (1, .ref (o t1)), (2, .int x2), (3, .int r1), (4, .int p4)]) hX [1, 2, 3, 4, 0] (by decide) rfl dX3_addFromIn_22 ?_
  refine q_iload (pc := 24) hX 4 rfl dX3_addFromIn_24 ?_
  obtain ⟨p7, hp7, hE⟩ := ob_bind hE
  suffices Jp7 : WM X o hn M G 0 0 43 6 [(0, .ref (o 43)), (1, .ref (o t1)), (2, .int x2), (3, .int r1), (4, .int p4)] [.int p7] by
    refine q_if_eq (pc := 26) hX 35 (by decide) dX3_addFromIn_26 (fun c => ?_) (fun c => ?_)
    · rw [if_pos c] at hp7
      refine q_aload_n (pc := 35) hX 1 rfl rfl dX3_addFromIn_35 ?_
      refine q_iload_n (pc := 36) hX 2 rfl rfl dX3_addFromIn_36 ?_
      refine q_iconst (pc := 37) hX (1) rfl dX3_addFromIn_37 ?_
      refine q_iadd (pc := 38) hX dX3_addFromIn_38 ?_
      refine q_iconst (pc := 39) hX (0) rfl dX3_addFromIn_39 ?_
      obtain ⟨r6, hr6, hp7⟩ := ob_bind hp7
      refine q_callV (pc := 40) (id := t1) (As := [.int (x2 + 1), .int 0]) (rest := []) (rv := some (.int r6)) (st' := [.int r6]) hX (c_X4_get ht1 hr6) (vl_X3_42) (tb_lt ht1) (ob_T ht1.1 _ _) rfl rfl pd_yX4_get rfl ⟨by decide, by decide⟩ ⟨Nat.le_of_ble_eq_true rfl, Nat.le_of_ble_eq_true rfl⟩ rfl (Nat.le_of_ble_eq_true rfl) rfl dX3_addFromIn_40 ?_
      cases hp7
      exact Jp7
    · rw [if_neg c] at hp7
      refine q_sipush (pc := 29) hX (10080) (by decide) dX3_addFromIn_29 ?_
      refine q_goto (pc := 32) hX 43 (by decide) dX3_addFromIn_32 ?_
      cases hp7
      exact Jp7
  refine q_istore (pc := 43) (lo' := [(0, .ref (o 43)), (1, .ref (o t1)), (2, .int x2), (3, .int r1), (4, .int p4), (5, .int p7)]) hX [1, 2, 3, 4, 5, 0] (by decide) rfl dX3_addFromIn_43 ?_
  refine q_iload (pc := 45) hX 4 rfl dX3_addFromIn_45 ?_
  refine q_if_ne (pc := 47) hX 60 (by decide) dX3_addFromIn_47 (fun c => ?_) (fun c => ?_)
  · rw [if_neg c] at hE
    refine q_aload_n (pc := 60) hX 0 rfl rfl dX3_addFromIn_60 ?_
    refine q_dup (pc := 61) hX rfl dX3_addFromIn_61 ?_
    refine q_get (pc := 62) (id := 43) (ci := 3) (N := 2) (T := TX3) (C := RX3) hX 1 (lt46 (by decide)) rfl rfl in_X3 (by decide) (Or.inl kw_67) rfl dX3_addFromIn_62 ?_
    refine q_iconst (pc := 65) hX (1) rfl dX3_addFromIn_65 ?_
    refine q_iadd (pc := 66) hX dX3_addFromIn_66 ?_
    obtain ⟨M8, hM8⟩ : ∃ z : Mem, z = mst M 43 1 ((M 43 1) + 1) := ⟨_, rfl⟩
    have hE := bnd_nm hM8 hE
    refine pu_S_rep (pc := 67) hX hM8 (Or.inl kw_67) dX3_addFromIn_67 ?_
    refine q_aload_n (pc := 70) hX 0 rfl rfl dX3_addFromIn_70 ?_
    refine q_get (pc := 71) (id := 43) (ci := 3) (N := 2) (T := TX3) (C := RX3) hX 0 (lt46 (by decide)) rfl rfl in_X3 (by decide) (Or.inl kw_66) rfl dX3_addFromIn_71 ?_
    refine q_iload_n (pc := 74) hX 3 rfl rfl dX3_addFromIn_74 ?_
    refine q_iload_n (pc := 75) hX 3 rfl rfl dX3_addFromIn_75 ?_
    refine q_sipush (pc := 76) hX (480) (by decide) dX3_addFromIn_76 ?_
    refine q_iadd (pc := 79) hX dX3_addFromIn_79 ?_
    refine q_iload (pc := 80) hX 5 rfl dX3_addFromIn_80 ?_
    refine r_min (pc := 82) hX kw_190 kw_191 kw_192 kw_193 (by decide) (Nat.le_of_ble_eq_true rfl) (Nat.le_of_ble_eq_true rfl) (Nat.le_of_ble_eq_true rfl) dX3_addFromIn_82 ?_
    obtain ⟨r9, hr9, hE⟩ := ob_bind hE
    refine q_callV (pc := 85) (id := 44) (As := [.int r1, .int (if p7 < r1 + 480 then p7 else r1 + 480)]) (rest := []) (rv := none) (st' := []) hX (c_X4_addSpan (tb_44 hn) hr9) (vl_X3_51) (lt46 (by decide)) (ob_T (tb_44 hn).1 _ _) rfl rfl pd_yX4_addSpan rfl ⟨by decide, by decide⟩ ⟨Nat.le_of_ble_eq_true rfl, Nat.le_of_ble_eq_true rfl⟩ rfl (Nat.le_of_ble_eq_true rfl) rfl dX3_addFromIn_85 ?_
    refine q_goto (pc := 88) hX 101 (by decide) dX3_addFromIn_88 ?_
    cases hE
    exact q_vret hX hR (by decide) (by decide) dX3_addFromIn_101
  · rw [if_pos c] at hE
    refine q_aload_n (pc := 50) hX 1 rfl rfl dX3_addFromIn_50 ?_
    refine q_iload_n (pc := 51) hX 2 rfl rfl dX3_addFromIn_51 ?_
    refine q_iconst (pc := 52) hX (1) rfl dX3_addFromIn_52 ?_
    refine q_iadd (pc := 53) hX dX3_addFromIn_53 ?_
    obtain ⟨r10, hr10, hE⟩ := ob_bind hE
    refine q_callS (pc := 54) (As := [.ref (o t1), .int (x2 + 1)]) (rest := []) (rv := some (.int r10)) (st' := [.int r10]) hX (c_X3_isIn ht1 hr10) (sl_X3_31) pd_yX3_isIn rfl ⟨by decide, by decide⟩ ⟨Nat.le_of_ble_eq_true rfl, Nat.le_of_ble_eq_true rfl⟩ rfl (Nat.le_of_ble_eq_true rfl) rfl dX3_addFromIn_54 ?_
    refine q_if_eq (pc := 57) hX 91 (by decide) dX3_addFromIn_57 (fun c => ?_) (fun c => ?_)
    · rw [if_pos c] at hE
      refine q_aload_n (pc := 91) hX 0 rfl rfl dX3_addFromIn_91 ?_
      refine q_get (pc := 92) (id := 43) (ci := 3) (N := 2) (T := TX3) (C := RX3) hX 0 (lt46 (by decide)) rfl rfl in_X3 (by decide) (Or.inl kw_66) rfl dX3_addFromIn_92 ?_
      refine q_iload_n (pc := 95) hX 3 rfl rfl dX3_addFromIn_95 ?_
      refine q_iload (pc := 96) hX 5 rfl dX3_addFromIn_96 ?_
      obtain ⟨r11, hr11, hE⟩ := ob_bind hE
      refine q_callV (pc := 98) (id := 44) (As := [.int r1, .int p7]) (rest := []) (rv := none) (st' := []) hX (c_X4_addSpan (tb_44 hn) hr11) (vl_X3_51) (lt46 (by decide)) (ob_T (tb_44 hn).1 _ _) rfl rfl pd_yX4_addSpan rfl ⟨by decide, by decide⟩ ⟨Nat.le_of_ble_eq_true rfl, Nat.le_of_ble_eq_true rfl⟩ rfl (Nat.le_of_ble_eq_true rfl) rfl dX3_addFromIn_98 ?_
      cases hE
      exact q_vret hX hR (by decide) (by decide) dX3_addFromIn_101
    · rw [if_neg c] at hE
      refine q_aload_n (pc := 60) hX 0 rfl rfl dX3_addFromIn_60 ?_
      refine q_dup (pc := 61) hX rfl dX3_addFromIn_61 ?_
      refine q_get (pc := 62) (id := 43) (ci := 3) (N := 2) (T := TX3) (C := RX3) hX 1 (lt46 (by decide)) rfl rfl in_X3 (by decide) (Or.inl kw_67) rfl dX3_addFromIn_62 ?_
      refine q_iconst (pc := 65) hX (1) rfl dX3_addFromIn_65 ?_
      refine q_iadd (pc := 66) hX dX3_addFromIn_66 ?_
      obtain ⟨M12, hM12⟩ : ∃ z : Mem, z = mst M 43 1 ((M 43 1) + 1) := ⟨_, rfl⟩
      have hE := bnd_nm hM12 hE
      refine pu_S_rep (pc := 67) hX hM12 (Or.inl kw_67) dX3_addFromIn_67 ?_
      refine q_aload_n (pc := 70) hX 0 rfl rfl dX3_addFromIn_70 ?_
      refine q_get (pc := 71) (id := 43) (ci := 3) (N := 2) (T := TX3) (C := RX3) hX 0 (lt46 (by decide)) rfl rfl in_X3 (by decide) (Or.inl kw_66) rfl dX3_addFromIn_71 ?_
      refine q_iload_n (pc := 74) hX 3 rfl rfl dX3_addFromIn_74 ?_
      refine q_iload_n (pc := 75) hX 3 rfl rfl dX3_addFromIn_75 ?_
      refine q_sipush (pc := 76) hX (480) (by decide) dX3_addFromIn_76 ?_
      refine q_iadd (pc := 79) hX dX3_addFromIn_79 ?_
      refine q_iload (pc := 80) hX 5 rfl dX3_addFromIn_80 ?_
      refine r_min (pc := 82) hX kw_190 kw_191 kw_192 kw_193 (by decide) (Nat.le_of_ble_eq_true rfl) (Nat.le_of_ble_eq_true rfl) (Nat.le_of_ble_eq_true rfl) dX3_addFromIn_82 ?_
      obtain ⟨r13, hr13, hE⟩ := ob_bind hE
      refine q_callV (pc := 85) (id := 44) (As := [.int r1, .int (if p7 < r1 + 480 then p7 else r1 + 480)]) (rest := []) (rv := none) (st' := []) hX (c_X4_addSpan (tb_44 hn) hr13) (vl_X3_51) (lt46 (by decide)) (ob_T (tb_44 hn).1 _ _) rfl rfl pd_yX4_addSpan rfl ⟨by decide, by decide⟩ ⟨Nat.le_of_ble_eq_true rfl, Nat.le_of_ble_eq_true rfl⟩ rfl (Nat.le_of_ble_eq_true rfl) rfl dX3_addFromIn_85 ?_
      refine q_goto (pc := 88) hX 101 (by decide) dX3_addFromIn_88 ?_
      cases hE
      exact q_vret hX hR (by decide) (by decide) dX3_addFromIn_101

set_option maxHeartbeats 4000000 in
theorem c_X3_addFromLoneOut {Y : Lx} {o : Nat → Nat} {hn : Nat} {M : Mem} {G : Mel} {t1 : Nat} {x2 : Int32} {Mr : Mem} (ht1 : tb hn t1) (hE : s_X3_addFromLoneOut M t1 x2 = some (Mr)) : MI Y yX3_addFromLoneOut cX3_addFromLoneOut 5 none 2 47 0 0 [.ref (o 43), .ref (o t1), .int x2] o hn M G (.inl (none)) Mr G := by
  refine MI.of (by decide +kernel) (Nat.le_of_ble_eq_true rfl) (fun X hY hX hE0 hR => ?_)
  change CxOK X RX3 cX3_addFromLoneOut 5 2 47 0 0 none at hX
  show WM X o hn M G 0 0 0 5 [(0, .ref (o 43)), (1, .ref (o t1)), (2, .int x2)] []
  unfold s_X3_addFromLoneOut at hE
  refine q_aload_n (pc := 0) hX 1 rfl rfl dX3_addFromLoneOut_0 ?_
  refine q_iload_n (pc := 1) hX 2 rfl rfl dX3_addFromLoneOut_1 ?_
  refine q_iconst (pc := 2) hX (0) rfl dX3_addFromLoneOut_2 ?_
  obtain ⟨r1, hr1, hE⟩ := ob_bind hE
  refine q_callV (pc := 3) (id := t1) (As := [.int x2, .int 0]) (rest := []) (rv := some (.int r1)) (st' := [.int r1]) hX (c_X4_get ht1 hr1) (vl_X3_42) (tb_lt ht1) (ob_T ht1.1 _ _) rfl rfl pd_yX4_get rfl ⟨by decide, by decide⟩ ⟨Nat.le_of_ble_eq_true rfl, Nat.le_of_ble_eq_true rfl⟩ rfl (Nat.le_of_ble_eq_true rfl) rfl dX3_addFromLoneOut_3 ?_
  refine q_istore_n (pc := 6) (lo' := [(0, .ref (o 43)), (1, .ref (o t1)), (2, .int x2), (3, .int r1)]) hX [1, 2, 3, 0] rfl (by decide) rfl dX3_addFromLoneOut_6 ?_
  refine q_iload_n (pc := 7) hX 2 rfl rfl dX3_addFromLoneOut_7 ?_
  obtain ⟨p4, hp4, hE⟩ := ob_bind hE
  suffices Jp4 : WM X o hn M G 0 0 23 5 [(0, .ref (o 43)), (3, .int r1)] [.int p4] by
    refine q_if_ne (pc := 8) hX 15 (by decide) dX3_addFromLoneOut_8 (fun c => ?_) (fun c => ?_)
    · rw [if_neg c] at hp4
      refine q_aload_n (pc := 15) hX 1 rfl rfl dX3_addFromLoneOut_15 ?_
      refine q_iload_n (pc := 16) hX 2 rfl rfl dX3_addFromLoneOut_16 ?_
      refine q_iconst (pc := 17) hX (1) rfl dX3_addFromLoneOut_17 ?_
      refine q_isub (pc := 18) hX dX3_addFromLoneOut_18 ?_
      refine q_iconst (pc := 19) hX (0) rfl dX3_addFromLoneOut_19 ?_
      obtain ⟨r3, hr3, hp4⟩ := ob_bind hp4
      refine q_callV (pc := 20) (id := t1) (As := [.int (x2 - 1), .int 0]) (rest := []) (rv := some (.int r3)) (st' := [.int r3]) hX (c_X4_get ht1 hr3) (vl_X3_42) (tb_lt ht1) (ob_T ht1.1 _ _) rfl rfl pd_yX4_get rfl ⟨by decide, by decide⟩ ⟨Nat.le_of_ble_eq_true rfl, Nat.le_of_ble_eq_true rfl⟩ rfl (Nat.le_of_ble_eq_true rfl) rfl dX3_addFromLoneOut_20 ?_
      refine q_lo [0, 3] rfl ?_
      cases hp4
      exact Jp4
    · rw [if_pos c] at hp4
      refine q_iconst (pc := 11) hX (0) rfl dX3_addFromLoneOut_11 ?_
      refine q_goto (pc := 12) hX 23 (by decide) dX3_addFromLoneOut_12 ?_
      refine q_lo [0, 3] rfl ?_
      cases hp4
      exact Jp4
  refine q_istore (pc := 23) (lo' := [(0, .ref (o 43)), (3, .int r1), (4, .int p4)]) hX [1, 2, 0] (by decide) rfl dX3_addFromLoneOut_23 ?_
  refine q_aload_n (pc := 25) hX 0 rfl rfl dX3_addFromLoneOut_25 ?_
  refine q_dup (pc := 26) hX rfl dX3_addFromLoneOut_26 ?_
  refine q_get (pc := 27) (id := 43) (ci := 3) (N := 2) (T := TX3) (C := RX3) hX 1 (lt46 (by decide)) rfl rfl in_X3 (by decide) (Or.inl kw_67) rfl dX3_addFromLoneOut_27 ?_
  refine q_iconst (pc := 30) hX (1) rfl dX3_addFromLoneOut_30 ?_
  refine q_iadd (pc := 31) hX dX3_addFromLoneOut_31 ?_
  obtain ⟨M5, hM5⟩ : ∃ z : Mem, z = mst M 43 1 ((M 43 1) + 1) := ⟨_, rfl⟩
  have hE := bnd_nm hM5 hE
  refine pu_S_rep (pc := 32) hX hM5 (Or.inl kw_67) dX3_addFromLoneOut_32 ?_
  refine q_aload_n (pc := 35) hX 0 rfl rfl dX3_addFromLoneOut_35 ?_
  refine q_get (pc := 36) (id := 43) (ci := 3) (N := 2) (T := TX3) (C := RX3) hX 0 (lt46 (by decide)) rfl rfl in_X3 (by decide) (Or.inl kw_66) rfl dX3_addFromLoneOut_36 ?_
  refine q_iload_n (pc := 39) hX 1 rfl rfl dX3_addFromLoneOut_39 ?_
  refine q_sipush (pc := 40) hX (480) (by decide) dX3_addFromLoneOut_40 ?_
  refine q_isub (pc := 43) hX dX3_addFromLoneOut_43 ?_
  refine q_iload (pc := 44) hX 2 rfl dX3_addFromLoneOut_44 ?_
  refine r_max (pc := 46) hX kw_199 kw_200 kw_192 kw_201 (by decide) (Nat.le_of_ble_eq_true rfl) (Nat.le_of_ble_eq_true rfl) (Nat.le_of_ble_eq_true rfl) dX3_addFromLoneOut_46 ?_
  refine q_iload_n (pc := 49) hX 1 rfl rfl dX3_addFromLoneOut_49 ?_
  obtain ⟨r6, hr6, hE⟩ := ob_bind hE
  refine q_callV (pc := 50) (id := 44) (As := [.int (if r1 - 480 < p4 then p4 else r1 - 480), .int r1]) (rest := []) (rv := none) (st' := []) hX (c_X4_addSpan (tb_44 hn) hr6) (vl_X3_51) (lt46 (by decide)) (ob_T (tb_44 hn).1 _ _) rfl rfl pd_yX4_addSpan rfl ⟨by decide, by decide⟩ ⟨Nat.le_of_ble_eq_true rfl, Nat.le_of_ble_eq_true rfl⟩ rfl (Nat.le_of_ble_eq_true rfl) rfl dX3_addFromLoneOut_50 ?_
  cases hE
  exact q_vret hX hR (by decide) (by decide) dX3_addFromLoneOut_53

set_option maxHeartbeats 4000000 in
theorem l_X3_read_14 {X : Cx} (hX : CxOK X RX3 cX3_read 3 3 72 0 0 none) (hE0 : CxE X []) {o : Nat → Nat} {hn : Nat} {t1 : Nat} {G : Mel} (ht1 : tb hn t1) : ∀ (f : Nat) (y3 : Int32) (M4 : Mem) (p13 : Int32 × Mem), L_X3_read_14 t1 f y3 M4 = some p13 → WM X o hn p13.2 G 0 0 61 3 [(0, .ref (o 43)), (1, .ref (o t1)), (2, .int p13.1)] [] → WM X o hn M4 G 0 0 14 3 [(0, .ref (o 43)), (1, .ref (o t1)), (2, .int y3)] [] := by
  intro f
  induction f with
  | zero => intro y3 M4 p13 hE; simp [L_X3_read_14] at hE
  | succ f ih =>
    intro y3 M4 p13 hE hx
    rw [L_X3_read_14] at hE
    refine q_iload_n (pc := 14) hX 2 rfl rfl dX3_read_14 ?_
    refine q_aload_n (pc := 15) hX 1 rfl rfl dX3_read_15 ?_
    obtain ⟨r5, hr5, hE⟩ := ob_bind hE
    refine q_callV (pc := 16) (id := t1) (As := []) (rest := [.int y3]) (rv := some (.int r5)) (st' := [.int r5, .int y3]) hX (c_X4_size ht1 hr5) (vl_X3_27) (tb_lt ht1) (ob_T ht1.1 _ _) rfl rfl pd_yX4_size rfl ⟨by decide, by decide⟩ ⟨Nat.le_of_ble_eq_true rfl, Nat.le_of_ble_eq_true rfl⟩ rfl (Nat.le_of_ble_eq_true rfl) rfl dX3_read_16 ?_
    refine q_icmp_ge (pc := 19) hX 61 (by decide) dX3_read_19 (fun c => ?_) (fun c => ?_)
    · rw [if_pos c] at hE
      cases hE
      exact hx
    · rw [if_neg c] at hE
      refine q_aload_n (pc := 22) hX 1 rfl rfl dX3_read_22 ?_
      refine q_iload_n (pc := 23) hX 2 rfl rfl dX3_read_23 ?_
      obtain ⟨r6, hr6, hE⟩ := ob_bind hE
      refine q_callS (pc := 24) (As := [.ref (o t1), .int y3]) (rest := []) (rv := some (.int r6)) (st' := [.int r6]) hX (c_X3_isIn ht1 hr6) (sl_X3_31) pd_yX3_isIn rfl ⟨by decide, by decide⟩ ⟨Nat.le_of_ble_eq_true rfl, Nat.le_of_ble_eq_true rfl⟩ rfl (Nat.le_of_ble_eq_true rfl) rfl dX3_read_24 ?_
      obtain ⟨p11, hp11, hE⟩ := ob_bind hE
      suffices Jp11 : WM X o hn p11 G 0 0 55 3 [(0, .ref (o 43)), (1, .ref (o t1)), (2, .int y3)] [] by
        refine q_if_eq (pc := 27) hX 39 (by decide) dX3_read_27 (fun c => ?_) (fun c => ?_)
        · rw [if_pos c] at hp11
          refine q_aload_n (pc := 39) hX 1 rfl rfl dX3_read_39 ?_
          refine q_iload_n (pc := 40) hX 2 rfl rfl dX3_read_40 ?_
          refine q_iconst (pc := 41) hX (1) rfl dX3_read_41 ?_
          refine q_isub (pc := 42) hX dX3_read_42 ?_
          obtain ⟨r8, hr8, hp11⟩ := ob_bind hp11
          refine q_callS (pc := 43) (As := [.ref (o t1), .int (y3 - 1)]) (rest := []) (rv := some (.int r8)) (st' := [.int r8]) hX (c_X3_isIn ht1 hr8) (sl_X3_31) pd_yX3_isIn rfl ⟨by decide, by decide⟩ ⟨Nat.le_of_ble_eq_true rfl, Nat.le_of_ble_eq_true rfl⟩ rfl (Nat.le_of_ble_eq_true rfl) rfl dX3_read_43 ?_
          refine q_if_ne (pc := 46) hX 55 (by decide) dX3_read_46 (fun c => ?_) (fun c => ?_)
          · rw [if_neg c] at hp11
            cases hp11
            exact Jp11
          · rw [if_pos c] at hp11
            refine q_aload_n (pc := 49) hX 0 rfl rfl dX3_read_49 ?_
            refine q_aload_n (pc := 50) hX 1 rfl rfl dX3_read_50 ?_
            refine q_iload_n (pc := 51) hX 2 rfl rfl dX3_read_51 ?_
            obtain ⟨r9, hr9, hp11⟩ := ob_bind hp11
            refine q_callV (pc := 52) (id := 43) (As := [.ref (o t1), .int y3]) (rest := []) (rv := none) (st' := []) hX (c_X3_addFromLoneOut ht1 hr9) (vl_X3_39) (lt46 (by decide)) rfl rfl rfl pd_yX3_addFromLoneOut rfl ⟨by decide, by decide⟩ ⟨Nat.le_of_ble_eq_true rfl, Nat.le_of_ble_eq_true rfl⟩ rfl (Nat.le_of_ble_eq_true rfl) rfl dX3_read_52 ?_
            cases hp11
            exact Jp11
        · rw [if_neg c] at hp11
          refine q_aload_n (pc := 30) hX 0 rfl rfl dX3_read_30 ?_
          refine q_aload_n (pc := 31) hX 1 rfl rfl dX3_read_31 ?_
          refine q_iload_n (pc := 32) hX 2 rfl rfl dX3_read_32 ?_
          obtain ⟨r10, hr10, hp11⟩ := ob_bind hp11
          refine q_callV (pc := 33) (id := 43) (As := [.ref (o t1), .int y3]) (rest := []) (rv := none) (st' := []) hX (c_X3_addFromIn ht1 hr10) (vl_X3_35) (lt46 (by decide)) rfl rfl rfl pd_yX3_addFromIn rfl ⟨by decide, by decide⟩ ⟨Nat.le_of_ble_eq_true rfl, Nat.le_of_ble_eq_true rfl⟩ rfl (Nat.le_of_ble_eq_true rfl) rfl dX3_read_33 ?_
          refine q_goto (pc := 36) hX 55 (by decide) dX3_read_36 ?_
          cases hp11
          exact Jp11
      obtain ⟨z12, hz12⟩ : ∃ z : Int32, z = y3 + 1 := ⟨_, rfl⟩
      have hE := bnd_nm hz12 hE
      refine q_iinc (pc := 55) (lo' := [(0, .ref (o 43)), (1, .ref (o t1)), (2, .int z12)]) hX 2 z12 [1, 2, 0] rfl (by rw [hz12]; rfl) (by decide) rfl dX3_read_55 ?_
      refine q_goto (pc := 58) hX 14 (by decide) dX3_read_58 ?_
      exact ih _ _ p13 hE hx

set_option maxHeartbeats 4000000 in
theorem c_X3_read {Y : Lx} {o : Nat → Nat} {hn : Nat} {M : Mem} {G : Mel} {t1 : Nat} {Mr : Mem} (ht1 : tb hn t1) (hE : s_X3_read M t1 = some (Mr)) : MI Y yX3_read cX3_read 3 none 3 72 0 0 [.ref (o 43), .ref (o t1)] o hn M G (.inl (none)) Mr G := by
  refine MI.of (by decide +kernel) (Nat.le_of_ble_eq_true rfl) (fun X hY hX hE0 hR => ?_)
  change CxOK X RX3 cX3_read 3 3 72 0 0 none at hX
  show WM X o hn M G 0 0 0 3 [(0, .ref (o 43)), (1, .ref (o t1))] []
  unfold s_X3_read at hE
  refine q_aload_n (pc := 0) hX 0 rfl rfl dX3_read_0 ?_
  refine q_get (pc := 1) (id := 43) (ci := 3) (N := 2) (T := TX3) (C := RX3) hX 0 (lt46 (by decide)) rfl rfl in_X3 (by decide) (Or.inl kw_66) rfl dX3_read_1 ?_
  obtain ⟨r1, hr1, hE⟩ := ob_bind hE
  refine q_callV (pc := 4) (id := 44) (As := []) (rest := []) (rv := none) (st' := []) hX (c_X4_clear (tb_44 hn) hr1) (vl_X3_24) (lt46 (by decide)) (ob_T (tb_44 hn).1 _ _) rfl rfl pd_yX4_clear rfl ⟨by decide, by decide⟩ ⟨Nat.le_of_ble_eq_true rfl, Nat.le_of_ble_eq_true rfl⟩ rfl (Nat.le_of_ble_eq_true rfl) rfl dX3_read_4 ?_
  refine q_aload_n (pc := 7) hX 0 rfl rfl dX3_read_7 ?_
  refine q_iconst (pc := 8) hX (0) rfl dX3_read_8 ?_
  obtain ⟨M2, hM2⟩ : ∃ z : Mem, z = mst r1 43 1 0 := ⟨_, rfl⟩
  have hE := bnd_nm hM2 hE
  refine pu_S_rep (pc := 9) hX hM2 (Or.inl kw_67) dX3_read_9 ?_
  refine q_iconst (pc := 12) hX (0) rfl dX3_read_12 ?_
  refine q_istore_n (pc := 13) (lo' := [(0, .ref (o 43)), (1, .ref (o t1)), (2, .int 0)]) hX [1, 2, 0] rfl (by decide) rfl dX3_read_13 ?_
  obtain ⟨p13, hp13, hE⟩ := ob_bind hE
  refine l_X3_read_14 hX hE0 ht1 FU _ _ p13 hp13 ?_
  cases hE
  exact q_vret hX hR (by decide) (by decide) dX3_read_61

set_option maxHeartbeats 4000000 in
theorem l_X5_addEvent_15 {X : Cx} (hX : CxOK X RX5 cX5_addEvent 6 1 24 0 0 none) (hE0 : CxE X []) {o : Nat → Nat} {hn : Nat} {M : Mem} {x1 : Int32} {x2 : Int32} {x3 : Int32} {G : Mel} : ∀ (f : Nat) (y3 : Int32) (y4 : Int32) (p7 : Int32 × Int32), L_X5_addEvent_15 M x1 f y3 y4 = some p7 → WM X o hn M G 0 0 44 6 [(0, .ref (o 38)), (1, .int x1), (2, .int x2), (3, .int x3), (4, .int p7.1), (5, .int p7.2)] [] → WM X o hn M G 0 0 15 6 [(0, .ref (o 38)), (1, .int x1), (2, .int x2), (3, .int x3), (4, .int y3), (5, .int y4)] [] := by
  intro f
  induction f with
  | zero => intro y3 y4 p7 hE; simp [L_X5_addEvent_15] at hE
  | succ f ih =>
    intro y3 y4 p7 hE hx
    rw [L_X5_addEvent_15] at hE
    refine q_iload (pc := 15) hX 5 rfl dX5_addEvent_15 ?_
    refine q_if_lt (pc := 17) hX 44 (by decide) dX5_addEvent_17 (fun c => ?_) (fun c => ?_)
    · rw [if_pos c] at hE
      cases hE
      exact hx
    · rw [if_neg c] at hE
      refine q_aload_n (pc := 20) hX 0 rfl rfl dX5_addEvent_20 ?_
      refine q_get (pc := 21) (id := 38) (ci := 5) (N := 4) (T := TX5) (C := RX5) hX 1 (lt46 (by decide)) rfl rfl in_X5 (by decide) (Or.inl kw_58) rfl dX5_addEvent_21 ?_
      refine q_iload (pc := 24) hX 5 rfl dX5_addEvent_24 ?_
      refine q_iconst (pc := 26) hX (0) rfl dX5_addEvent_26 ?_
      obtain ⟨r5, hr5, hE⟩ := ob_bind hE
      refine q_callV (pc := 27) (id := 39) (As := [.int y4, .int 0]) (rest := []) (rv := some (.int r5)) (st' := [.int r5]) hX (c_X4_get (tb_39 hn) hr5) (vl_X5_66) (lt46 (by decide)) (ob_T (tb_39 hn).1 _ _) rfl rfl pd_yX4_get rfl ⟨by decide, by decide⟩ ⟨Nat.le_of_ble_eq_true rfl, Nat.le_of_ble_eq_true rfl⟩ rfl (Nat.le_of_ble_eq_true rfl) rfl dX5_addEvent_27 ?_
      refine q_iload_n (pc := 30) hX 1 rfl rfl dX5_addEvent_30 ?_
      refine q_icmp_le (pc := 31) hX 44 (by decide) dX5_addEvent_31 (fun c => ?_) (fun c => ?_)
      · rw [if_pos c] at hE
        cases hE
        exact hx
      · rw [if_neg c] at hE
        refine q_iload (pc := 34) hX 5 rfl dX5_addEvent_34 ?_
        refine q_istore (pc := 36) (lo' := [(0, .ref (o 38)), (1, .int x1), (2, .int x2), (3, .int x3), (4, .int y4), (5, .int y4)]) hX [1, 2, 3, 4, 0, 5] (by decide) rfl dX5_addEvent_36 ?_
        obtain ⟨z6, hz6⟩ : ∃ z : Int32, z = y4 + (-1) := ⟨_, rfl⟩
        have hE := bnd_nm hz6 hE
        refine q_iinc (pc := 38) (lo' := [(0, .ref (o 38)), (1, .int x1), (2, .int x2), (3, .int x3), (4, .int y4), (5, .int z6)]) hX 5 z6 [1, 2, 3, 4, 5, 0] rfl (by rw [hz6]; rfl) (by decide) rfl dX5_addEvent_38 ?_
        refine q_goto (pc := 41) hX 15 (by decide) dX5_addEvent_41 ?_
        exact ih _ _ p7 hE hx

set_option maxHeartbeats 4000000 in
theorem c_X5_addEvent {Y : Lx} {o : Nat → Nat} {hn : Nat} {M : Mem} {G : Mel} {x1 : Int32} {x2 : Int32} {x3 : Int32} {Mr : Mem} (hE : s_X5_addEvent M x1 x2 x3 = some (Mr)) : MI Y yX5_addEvent cX5_addEvent 6 none 1 24 0 0 [.ref (o 38), .int x1, .int x2, .int x3] o hn M G (.inl (none)) Mr G := by
  refine MI.of (by decide +kernel) (Nat.le_of_ble_eq_true rfl) (fun X hY hX hE0 hR => ?_)
  change CxOK X RX5 cX5_addEvent 6 1 24 0 0 none at hX
  show WM X o hn M G 0 0 0 6 [(0, .ref (o 38)), (1, .int x1), (2, .int x2), (3, .int x3)] []
  unfold s_X5_addEvent at hE
  refine q_aload_n (pc := 0) hX 0 rfl rfl dX5_addEvent_0 ?_
  refine q_get (pc := 1) (id := 38) (ci := 5) (N := 4) (T := TX5) (C := RX5) hX 1 (lt46 (by decide)) rfl rfl in_X5 (by decide) (Or.inl kw_58) rfl dX5_addEvent_1 ?_
  obtain ⟨r1, hr1, hE⟩ := ob_bind hE
  refine q_callV (pc := 4) (id := 39) (As := []) (rest := []) (rv := some (.int r1)) (st' := [.int r1]) hX (c_X4_size (tb_39 hn) hr1) (vl_X5_62) (lt46 (by decide)) (ob_T (tb_39 hn).1 _ _) rfl rfl pd_yX4_size rfl ⟨by decide, by decide⟩ ⟨Nat.le_of_ble_eq_true rfl, Nat.le_of_ble_eq_true rfl⟩ rfl (Nat.le_of_ble_eq_true rfl) rfl dX5_addEvent_4 ?_
  refine q_istore (pc := 7) (lo' := [(0, .ref (o 38)), (1, .int x1), (2, .int x2), (3, .int x3), (4, .int r1)]) hX [1, 2, 3, 4, 0] (by decide) rfl dX5_addEvent_7 ?_
  refine q_iload (pc := 9) hX 4 rfl dX5_addEvent_9 ?_
  refine q_iconst (pc := 11) hX (1) rfl dX5_addEvent_11 ?_
  refine q_isub (pc := 12) hX dX5_addEvent_12 ?_
  refine q_nm (fun z2 hz2 => ?_)
  have hE := bnd_nm hz2 hE
  refine q_istore (pc := 13) (lo' := [(0, .ref (o 38)), (1, .int x1), (2, .int x2), (3, .int x3), (4, .int r1), (5, .int z2)]) hX [1, 2, 3, 4, 5, 0] (by decide) rfl dX5_addEvent_13 ?_
  obtain ⟨p7, hp7, hE⟩ := ob_bind hE
  refine l_X5_addEvent_15 hX hE0 FU _ _ p7 hp7 ?_
  refine q_aload_n (pc := 44) hX 0 rfl rfl dX5_addEvent_44 ?_
  refine q_get (pc := 45) (id := 38) (ci := 5) (N := 4) (T := TX5) (C := RX5) hX 1 (lt46 (by decide)) rfl rfl in_X5 (by decide) (Or.inl kw_58) rfl dX5_addEvent_45 ?_
  refine q_iload (pc := 48) hX 4 rfl dX5_addEvent_48 ?_
  obtain ⟨r8, hr8, hE⟩ := ob_bind hE
  refine q_callV (pc := 50) (id := 39) (As := [.int p7.1]) (rest := []) (rv := none) (st' := []) hX (c_X4_insert (tb_39 hn) hr8) (vl_X5_74) (lt46 (by decide)) (ob_T (tb_39 hn).1 _ _) rfl rfl pd_yX4_insert rfl ⟨by decide, by decide⟩ ⟨Nat.le_of_ble_eq_true rfl, Nat.le_of_ble_eq_true rfl⟩ rfl (Nat.le_of_ble_eq_true rfl) rfl dX5_addEvent_50 ?_
  refine q_aload_n (pc := 53) hX 0 rfl rfl dX5_addEvent_53 ?_
  refine q_get (pc := 54) (id := 38) (ci := 5) (N := 4) (T := TX5) (C := RX5) hX 1 (lt46 (by decide)) rfl rfl in_X5 (by decide) (Or.inl kw_58) rfl dX5_addEvent_54 ?_
  refine q_iload (pc := 57) hX 4 rfl dX5_addEvent_57 ?_
  refine q_iconst (pc := 59) hX (0) rfl dX5_addEvent_59 ?_
  refine q_iload_n (pc := 60) hX 1 rfl rfl dX5_addEvent_60 ?_
  obtain ⟨r9, hr9, hE⟩ := ob_bind hE
  refine q_callV (pc := 61) (id := 39) (As := [.int p7.1, .int 0, .int x1]) (rest := []) (rv := none) (st' := []) hX (c_X4_set (tb_39 hn) hr9) (vl_X5_78) (lt46 (by decide)) (ob_T (tb_39 hn).1 _ _) rfl rfl pd_yX4_set rfl ⟨by decide, by decide⟩ ⟨Nat.le_of_ble_eq_true rfl, Nat.le_of_ble_eq_true rfl⟩ rfl (Nat.le_of_ble_eq_true rfl) rfl dX5_addEvent_61 ?_
  refine q_aload_n (pc := 64) hX 0 rfl rfl dX5_addEvent_64 ?_
  refine q_get (pc := 65) (id := 38) (ci := 5) (N := 4) (T := TX5) (C := RX5) hX 1 (lt46 (by decide)) rfl rfl in_X5 (by decide) (Or.inl kw_58) rfl dX5_addEvent_65 ?_
  refine q_iload (pc := 68) hX 4 rfl dX5_addEvent_68 ?_
  refine q_iconst (pc := 70) hX (1) rfl dX5_addEvent_70 ?_
  refine q_iload_n (pc := 71) hX 2 rfl rfl dX5_addEvent_71 ?_
  obtain ⟨r10, hr10, hE⟩ := ob_bind hE
  refine q_callV (pc := 72) (id := 39) (As := [.int p7.1, .int 1, .int x2]) (rest := []) (rv := none) (st' := []) hX (c_X4_set (tb_39 hn) hr10) (vl_X5_78) (lt46 (by decide)) (ob_T (tb_39 hn).1 _ _) rfl rfl pd_yX4_set rfl ⟨by decide, by decide⟩ ⟨Nat.le_of_ble_eq_true rfl, Nat.le_of_ble_eq_true rfl⟩ rfl (Nat.le_of_ble_eq_true rfl) rfl dX5_addEvent_72 ?_
  refine q_aload_n (pc := 75) hX 0 rfl rfl dX5_addEvent_75 ?_
  refine q_get (pc := 76) (id := 38) (ci := 5) (N := 4) (T := TX5) (C := RX5) hX 1 (lt46 (by decide)) rfl rfl in_X5 (by decide) (Or.inl kw_58) rfl dX5_addEvent_76 ?_
  refine q_iload (pc := 79) hX 4 rfl dX5_addEvent_79 ?_
  refine q_iconst (pc := 81) hX (2) rfl dX5_addEvent_81 ?_
  refine q_iload_n (pc := 82) hX 3 rfl rfl dX5_addEvent_82 ?_
  obtain ⟨r11, hr11, hE⟩ := ob_bind hE
  refine q_callV (pc := 83) (id := 39) (As := [.int p7.1, .int 2, .int x3]) (rest := []) (rv := none) (st' := []) hX (c_X4_set (tb_39 hn) hr11) (vl_X5_78) (lt46 (by decide)) (ob_T (tb_39 hn).1 _ _) rfl rfl pd_yX4_set rfl ⟨by decide, by decide⟩ ⟨Nat.le_of_ble_eq_true rfl, Nat.le_of_ble_eq_true rfl⟩ rfl (Nat.le_of_ble_eq_true rfl) rfl dX5_addEvent_83 ?_
  cases hE
  exact q_vret hX hR (by decide) (by decide) dX5_addEvent_86

set_option maxHeartbeats 4000000 in
theorem l_X5_addEvents_3 {X : Cx} (hX : CxOK X RX5 cX5_addEvents 5 2 49 0 0 none) (hE0 : CxE X []) {o : Nat → Nat} {hn : Nat} {t1 : Nat} {x2 : Int32} {x3 : Int32} {G : Mel} (ht1 : tb hn t1) : ∀ (f : Nat) (y1 : Int32) (M2 : Mem) (p9 : Int32 × Mem), L_X5_addEvents_3 t1 x2 x3 f y1 M2 = some p9 → WM X o hn p9.2 G 0 0 46 5 [(0, .ref (o 38)), (1, .ref (o t1)), (2, .int x2), (3, .int x3), (4, .int p9.1)] [] → WM X o hn M2 G 0 0 3 5 [(0, .ref (o 38)), (1, .ref (o t1)), (2, .int x2), (3, .int x3), (4, .int y1)] [] := by
  intro f
  induction f with
  | zero => intro y1 M2 p9 hE; simp [L_X5_addEvents_3] at hE
  | succ f ih =>
    intro y1 M2 p9 hE hx
    rw [L_X5_addEvents_3] at hE
    refine q_iload (pc := 3) hX 4 rfl dX5_addEvents_3 ?_
    refine q_aload_n (pc := 5) hX 1 rfl rfl dX5_addEvents_5 ?_
    obtain ⟨r3, hr3, hE⟩ := ob_bind hE
    refine q_callV (pc := 6) (id := t1) (As := []) (rest := [.int y1]) (rv := some (.int r3)) (st' := [.int r3, .int y1]) hX (c_X4_size ht1 hr3) (vl_X5_62) (tb_lt ht1) (ob_T ht1.1 _ _) rfl rfl pd_yX4_size rfl ⟨by decide, by decide⟩ ⟨Nat.le_of_ble_eq_true rfl, Nat.le_of_ble_eq_true rfl⟩ rfl (Nat.le_of_ble_eq_true rfl) rfl dX5_addEvents_6 ?_
    refine q_icmp_ge (pc := 9) hX 46 (by decide) dX5_addEvents_9 (fun c => ?_) (fun c => ?_)
    · rw [if_pos c] at hE
      cases hE
      exact hx
    · rw [if_neg c] at hE
      refine q_aload_n (pc := 12) hX 0 rfl rfl dX5_addEvents_12 ?_
      refine q_aload_n (pc := 13) hX 1 rfl rfl dX5_addEvents_13 ?_
      refine q_iload (pc := 14) hX 4 rfl dX5_addEvents_14 ?_
      refine q_iconst (pc := 16) hX (0) rfl dX5_addEvents_16 ?_
      obtain ⟨r4, hr4, hE⟩ := ob_bind hE
      refine q_callV (pc := 17) (id := t1) (As := [.int y1, .int 0]) (rest := [.ref (o 38)]) (rv := some (.int r4)) (st' := [.int r4, .ref (o 38)]) hX (c_X4_get ht1 hr4) (vl_X5_66) (tb_lt ht1) (ob_T ht1.1 _ _) rfl rfl pd_yX4_get rfl ⟨by decide, by decide⟩ ⟨Nat.le_of_ble_eq_true rfl, Nat.le_of_ble_eq_true rfl⟩ rfl (Nat.le_of_ble_eq_true rfl) rfl dX5_addEvents_17 ?_
      refine q_iload_n (pc := 20) hX 2 rfl rfl dX5_addEvents_20 ?_
      refine q_iload_n (pc := 21) hX 3 rfl rfl dX5_addEvents_21 ?_
      obtain ⟨r5, hr5, hE⟩ := ob_bind hE
      refine q_callV (pc := 22) (id := 38) (As := [.int r4, .int x2, .int x3]) (rest := []) (rv := none) (st' := []) hX (c_X5_addEvent hr5) (vl_X5_70) (lt46 (by decide)) rfl rfl rfl pd_yX5_addEvent rfl ⟨by decide, by decide⟩ ⟨Nat.le_of_ble_eq_true rfl, Nat.le_of_ble_eq_true rfl⟩ rfl (Nat.le_of_ble_eq_true rfl) rfl dX5_addEvents_22 ?_
      refine q_aload_n (pc := 25) hX 0 rfl rfl dX5_addEvents_25 ?_
      refine q_aload_n (pc := 26) hX 1 rfl rfl dX5_addEvents_26 ?_
      refine q_iload (pc := 27) hX 4 rfl dX5_addEvents_27 ?_
      refine q_iconst (pc := 29) hX (1) rfl dX5_addEvents_29 ?_
      obtain ⟨r6, hr6, hE⟩ := ob_bind hE
      refine q_callV (pc := 30) (id := t1) (As := [.int y1, .int 1]) (rest := [.ref (o 38)]) (rv := some (.int r6)) (st' := [.int r6, .ref (o 38)]) hX (c_X4_get ht1 hr6) (vl_X5_66) (tb_lt ht1) (ob_T ht1.1 _ _) rfl rfl pd_yX4_get rfl ⟨by decide, by decide⟩ ⟨Nat.le_of_ble_eq_true rfl, Nat.le_of_ble_eq_true rfl⟩ rfl (Nat.le_of_ble_eq_true rfl) rfl dX5_addEvents_30 ?_
      refine q_iload_n (pc := 33) hX 2 rfl rfl dX5_addEvents_33 ?_
      refine q_ineg (pc := 34) hX dX5_addEvents_34 ?_
      refine q_iload_n (pc := 35) hX 3 rfl rfl dX5_addEvents_35 ?_
      refine q_ineg (pc := 36) hX dX5_addEvents_36 ?_
      obtain ⟨r7, hr7, hE⟩ := ob_bind hE
      refine q_callV (pc := 37) (id := 38) (As := [.int r6, .int (-x2), .int (-x3)]) (rest := []) (rv := none) (st' := []) hX (c_X5_addEvent hr7) (vl_X5_70) (lt46 (by decide)) rfl rfl rfl pd_yX5_addEvent rfl ⟨by decide, by decide⟩ ⟨Nat.le_of_ble_eq_true rfl, Nat.le_of_ble_eq_true rfl⟩ rfl (Nat.le_of_ble_eq_true rfl) rfl dX5_addEvents_37 ?_
      obtain ⟨z8, hz8⟩ : ∃ z : Int32, z = y1 + 1 := ⟨_, rfl⟩
      have hE := bnd_nm hz8 hE
      refine q_iinc (pc := 40) (lo' := [(0, .ref (o 38)), (1, .ref (o t1)), (2, .int x2), (3, .int x3), (4, .int z8)]) hX 4 z8 [1, 2, 3, 4, 0] rfl (by rw [hz8]; rfl) (by decide) rfl dX5_addEvents_40 ?_
      refine q_goto (pc := 43) hX 3 (by decide) dX5_addEvents_43 ?_
      exact ih _ _ p9 hE hx

set_option maxHeartbeats 4000000 in
theorem c_X5_addEvents {Y : Lx} {o : Nat → Nat} {hn : Nat} {M : Mem} {G : Mel} {t1 : Nat} {x2 : Int32} {x3 : Int32} {Mr : Mem} (ht1 : tb hn t1) (hE : s_X5_addEvents M t1 x2 x3 = some (Mr)) : MI Y yX5_addEvents cX5_addEvents 5 none 2 49 0 0 [.ref (o 38), .ref (o t1), .int x2, .int x3] o hn M G (.inl (none)) Mr G := by
  refine MI.of (by decide +kernel) (Nat.le_of_ble_eq_true rfl) (fun X hY hX hE0 hR => ?_)
  change CxOK X RX5 cX5_addEvents 5 2 49 0 0 none at hX
  show WM X o hn M G 0 0 0 5 [(0, .ref (o 38)), (1, .ref (o t1)), (2, .int x2), (3, .int x3)] []
  unfold s_X5_addEvents at hE
  refine q_iconst (pc := 0) hX (0) rfl dX5_addEvents_0 ?_
  refine q_istore (pc := 1) (lo' := [(0, .ref (o 38)), (1, .ref (o t1)), (2, .int x2), (3, .int x3), (4, .int 0)]) hX [1, 2, 3, 4, 0] (by decide) rfl dX5_addEvents_1 ?_
  obtain ⟨p9, hp9, hE⟩ := ob_bind hE
  refine l_X5_addEvents_3 hX hE0 ht1 FU _ _ p9 hp9 ?_
  cases hE
  exact q_vret hX hR (by decide) (by decide) dX5_addEvents_46

set_option maxHeartbeats 4000000 in
theorem c_X5_addWorked {Y : Lx} {o : Nat → Nat} {hn : Nat} {M : Mem} {G : Mel} {x1 : Int32} {x2 : Int32} {Mr : Mem} (hE : s_X5_addWorked M x1 x2 = some (Mr)) : MI Y yX5_addWorked cX5_addWorked 4 none 2 47 0 0 [.ref (o 38), .int x1, .int x2] o hn M G (.inl (none)) Mr G := by
  refine MI.of (by decide +kernel) (Nat.le_of_ble_eq_true rfl) (fun X hY hX hE0 hR => ?_)
  change CxOK X RX5 cX5_addWorked 4 2 47 0 0 none at hX
  show WM X o hn M G 0 0 0 4 [(0, .ref (o 38)), (1, .int x1), (2, .int x2)] []
  unfold s_X5_addWorked at hE
  refine q_aload_n (pc := 0) hX 0 rfl rfl dX5_addWorked_0 ?_
  refine q_get (pc := 1) (id := 38) (ci := 5) (N := 4) (T := TX5) (C := RX5) hX 2 (lt46 (by decide)) rfl rfl in_X5 (by decide) (Or.inl kw_59) rfl dX5_addWorked_1 ?_
  obtain ⟨r1, hr1, hE⟩ := ob_bind hE
  refine q_callV (pc := 4) (id := 41) (As := []) (rest := []) (rv := some (.int r1)) (st' := [.int r1]) hX (c_X4_size (tb_41 hn) hr1) (vl_X5_62) (lt46 (by decide)) (ob_T (tb_41 hn).1 _ _) rfl rfl pd_yX4_size rfl ⟨by decide, by decide⟩ ⟨Nat.le_of_ble_eq_true rfl, Nat.le_of_ble_eq_true rfl⟩ rfl (Nat.le_of_ble_eq_true rfl) rfl dX5_addWorked_4 ?_
  refine q_iconst (pc := 7) hX (1) rfl dX5_addWorked_7 ?_
  refine q_isub (pc := 8) hX dX5_addWorked_8 ?_
  refine q_nm (fun z2 hz2 => ?_)
  have hE := bnd_nm hz2 hE
  refine q_istore_n (pc := 9) (lo' := [(0, .ref (o 38)), (1, .int x1), (2, .int x2), (3, .int z2)]) hX [1, 2, 3, 0] rfl (by decide) rfl dX5_addWorked_9 ?_
  refine q_iload_n (pc := 10) hX 3 rfl rfl dX5_addWorked_10 ?_
  refine q_if_lt (pc := 11) hX 40 (by decide) dX5_addWorked_11 (fun c => ?_) (fun c => ?_)
  · rw [if_pos c] at hE
    refine q_aload_n (pc := 40) hX 0 rfl rfl dX5_addWorked_40 ?_
    refine q_get (pc := 41) (id := 38) (ci := 5) (N := 4) (T := TX5) (C := RX5) hX 2 (lt46 (by decide)) rfl rfl in_X5 (by decide) (Or.inl kw_59) rfl dX5_addWorked_41 ?_
    refine q_iload_n (pc := 44) hX 1 rfl rfl dX5_addWorked_44 ?_
    refine q_iload_n (pc := 45) hX 2 rfl rfl dX5_addWorked_45 ?_
    obtain ⟨r3, hr3, hE⟩ := ob_bind hE
    refine q_callV (pc := 46) (id := 41) (As := [.int x1, .int x2]) (rest := []) (rv := none) (st' := []) hX (c_X4_addSpan (tb_41 hn) hr3) (vl_X5_84) (lt46 (by decide)) (ob_T (tb_41 hn).1 _ _) rfl rfl pd_yX4_addSpan rfl ⟨by decide, by decide⟩ ⟨Nat.le_of_ble_eq_true rfl, Nat.le_of_ble_eq_true rfl⟩ rfl (Nat.le_of_ble_eq_true rfl) rfl dX5_addWorked_46 ?_
    cases hE
    exact q_vret hX hR (by decide) (by decide) dX5_addWorked_49
  · rw [if_neg c] at hE
    refine q_aload_n (pc := 14) hX 0 rfl rfl dX5_addWorked_14 ?_
    refine q_get (pc := 15) (id := 38) (ci := 5) (N := 4) (T := TX5) (C := RX5) hX 2 (lt46 (by decide)) rfl rfl in_X5 (by decide) (Or.inl kw_59) rfl dX5_addWorked_15 ?_
    refine q_iload_n (pc := 18) hX 3 rfl rfl dX5_addWorked_18 ?_
    refine q_iconst (pc := 19) hX (1) rfl dX5_addWorked_19 ?_
    obtain ⟨r4, hr4, hE⟩ := ob_bind hE
    refine q_callV (pc := 20) (id := 41) (As := [.int z2, .int 1]) (rest := []) (rv := some (.int r4)) (st' := [.int r4]) hX (c_X4_get (tb_41 hn) hr4) (vl_X5_66) (lt46 (by decide)) (ob_T (tb_41 hn).1 _ _) rfl rfl pd_yX4_get rfl ⟨by decide, by decide⟩ ⟨Nat.le_of_ble_eq_true rfl, Nat.le_of_ble_eq_true rfl⟩ rfl (Nat.le_of_ble_eq_true rfl) rfl dX5_addWorked_20 ?_
    refine q_iload_n (pc := 23) hX 1 rfl rfl dX5_addWorked_23 ?_
    refine q_icmp_ne (pc := 24) hX 40 (by decide) dX5_addWorked_24 (fun c => ?_) (fun c => ?_)
    · rw [if_neg c] at hE
      refine q_aload_n (pc := 40) hX 0 rfl rfl dX5_addWorked_40 ?_
      refine q_get (pc := 41) (id := 38) (ci := 5) (N := 4) (T := TX5) (C := RX5) hX 2 (lt46 (by decide)) rfl rfl in_X5 (by decide) (Or.inl kw_59) rfl dX5_addWorked_41 ?_
      refine q_iload_n (pc := 44) hX 1 rfl rfl dX5_addWorked_44 ?_
      refine q_iload_n (pc := 45) hX 2 rfl rfl dX5_addWorked_45 ?_
      obtain ⟨r5, hr5, hE⟩ := ob_bind hE
      refine q_callV (pc := 46) (id := 41) (As := [.int x1, .int x2]) (rest := []) (rv := none) (st' := []) hX (c_X4_addSpan (tb_41 hn) hr5) (vl_X5_84) (lt46 (by decide)) (ob_T (tb_41 hn).1 _ _) rfl rfl pd_yX4_addSpan rfl ⟨by decide, by decide⟩ ⟨Nat.le_of_ble_eq_true rfl, Nat.le_of_ble_eq_true rfl⟩ rfl (Nat.le_of_ble_eq_true rfl) rfl dX5_addWorked_46 ?_
      cases hE
      exact q_vret hX hR (by decide) (by decide) dX5_addWorked_49
    · rw [if_pos c] at hE
      refine q_aload_n (pc := 27) hX 0 rfl rfl dX5_addWorked_27 ?_
      refine q_get (pc := 28) (id := 38) (ci := 5) (N := 4) (T := TX5) (C := RX5) hX 2 (lt46 (by decide)) rfl rfl in_X5 (by decide) (Or.inl kw_59) rfl dX5_addWorked_28 ?_
      refine q_iload_n (pc := 31) hX 3 rfl rfl dX5_addWorked_31 ?_
      refine q_iconst (pc := 32) hX (1) rfl dX5_addWorked_32 ?_
      refine q_iload_n (pc := 33) hX 2 rfl rfl dX5_addWorked_33 ?_
      obtain ⟨r6, hr6, hE⟩ := ob_bind hE
      refine q_callV (pc := 34) (id := 41) (As := [.int z2, .int 1, .int x2]) (rest := []) (rv := none) (st' := []) hX (c_X4_set (tb_41 hn) hr6) (vl_X5_78) (lt46 (by decide)) (ob_T (tb_41 hn).1 _ _) rfl rfl pd_yX4_set rfl ⟨by decide, by decide⟩ ⟨Nat.le_of_ble_eq_true rfl, Nat.le_of_ble_eq_true rfl⟩ rfl (Nat.le_of_ble_eq_true rfl) rfl dX5_addWorked_34 ?_
      refine q_goto (pc := 37) hX 49 (by decide) dX5_addWorked_37 ?_
      cases hE
      exact q_vret hX hR (by decide) (by decide) dX5_addWorked_49

set_option maxHeartbeats 4000000 in
theorem l_X5_goThroughEvents_21 {X : Cx} (hX : CxOK X RX5 cX5_goThroughEvents 6 3 70 0 0 none) (hE0 : CxE X []) {o : Nat → Nat} {hn : Nat} {G : Mel} : ∀ (f : Nat) (y3 : Int32) (y4 : Int32) (y5 : Int32) (y6 : Int32) (M7 : Mem) (p21 : Int32 × Int32 × Int32 × Int32 × Mem), L_X5_goThroughEvents_21 f y3 y4 y5 y6 M7 = some p21 → WM X o hn p21.2.2.2.2 G 0 0 120 6 [(0, .ref (o 38)), (1, .int p21.1), (2, .int p21.2.1), (3, .int p21.2.2.1), (4, .int p21.2.2.2.1)] [] → WM X o hn M7 G 0 0 21 6 [(0, .ref (o 38)), (1, .int y3), (2, .int y4), (3, .int y5), (4, .int y6)] [] := by
  intro f
  induction f with
  | zero => intro y3 y4 y5 y6 M7 p21 hE; simp [L_X5_goThroughEvents_21] at hE
  | succ f ih =>
    intro y3 y4 y5 y6 M7 p21 hE hx
    rw [L_X5_goThroughEvents_21] at hE
    refine q_iload (pc := 21) hX 4 rfl dX5_goThroughEvents_21 ?_
    refine q_aload_n (pc := 23) hX 0 rfl rfl dX5_goThroughEvents_23 ?_
    refine q_get (pc := 24) (id := 38) (ci := 5) (N := 4) (T := TX5) (C := RX5) hX 1 (lt46 (by decide)) rfl rfl in_X5 (by decide) (Or.inl kw_58) rfl dX5_goThroughEvents_24 ?_
    obtain ⟨r8, hr8, hE⟩ := ob_bind hE
    refine q_callV (pc := 27) (id := 39) (As := []) (rest := [.int y6]) (rv := some (.int r8)) (st' := [.int r8, .int y6]) hX (c_X4_size (tb_39 hn) hr8) (vl_X5_62) (lt46 (by decide)) (ob_T (tb_39 hn).1 _ _) rfl rfl pd_yX4_size rfl ⟨by decide, by decide⟩ ⟨Nat.le_of_ble_eq_true rfl, Nat.le_of_ble_eq_true rfl⟩ rfl (Nat.le_of_ble_eq_true rfl) rfl dX5_goThroughEvents_27 ?_
    refine q_icmp_ge (pc := 30) hX 120 (by decide) dX5_goThroughEvents_30 (fun c => ?_) (fun c => ?_)
    · rw [if_pos c] at hE
      cases hE
      exact hx
    · rw [if_neg c] at hE
      refine q_aload_n (pc := 33) hX 0 rfl rfl dX5_goThroughEvents_33 ?_
      refine q_get (pc := 34) (id := 38) (ci := 5) (N := 4) (T := TX5) (C := RX5) hX 1 (lt46 (by decide)) rfl rfl in_X5 (by decide) (Or.inl kw_58) rfl dX5_goThroughEvents_34 ?_
      refine q_iload (pc := 37) hX 4 rfl dX5_goThroughEvents_37 ?_
      refine q_iconst (pc := 39) hX (0) rfl dX5_goThroughEvents_39 ?_
      obtain ⟨r9, hr9, hE⟩ := ob_bind hE
      refine q_callV (pc := 40) (id := 39) (As := [.int y6, .int 0]) (rest := []) (rv := some (.int r9)) (st' := [.int r9]) hX (c_X4_get (tb_39 hn) hr9) (vl_X5_66) (lt46 (by decide)) (ob_T (tb_39 hn).1 _ _) rfl rfl pd_yX4_get rfl ⟨by decide, by decide⟩ ⟨Nat.le_of_ble_eq_true rfl, Nat.le_of_ble_eq_true rfl⟩ rfl (Nat.le_of_ble_eq_true rfl) rfl dX5_goThroughEvents_40 ?_
      refine q_istore (pc := 43) (lo' := [(0, .ref (o 38)), (1, .int y3), (2, .int y4), (3, .int y5), (4, .int y6), (5, .int r9)]) hX [1, 2, 3, 4, 5, 0] (by decide) rfl dX5_goThroughEvents_43 ?_
      refine q_iload_n (pc := 45) hX 1 rfl rfl dX5_goThroughEvents_45 ?_
      refine q_iconst (pc := 46) hX (2) rfl dX5_goThroughEvents_46 ?_
      obtain ⟨p12, hp12, hE⟩ := bnd_ob hE
      suffices Jp12 : WM X o hn p12 G 0 0 63 6 [(0, .ref (o 38)), (1, .int y3), (2, .int y4), (3, .int y5), (4, .int y6), (5, .int r9)] [] by
        refine q_icmp_lt (pc := 47) hX 63 (by decide) dX5_goThroughEvents_47 (fun c => ?_) (fun c => ?_)
        · rw [if_pos c] at hp12
          cases hp12
          exact Jp12
        · rw [if_neg c] at hp12
          refine q_aload_n (pc := 50) hX 0 rfl rfl dX5_goThroughEvents_50 ?_
          refine q_dup (pc := 51) hX rfl dX5_goThroughEvents_51 ?_
          refine q_get (pc := 52) (id := 38) (ci := 5) (N := 4) (T := TX5) (C := RX5) hX 3 (lt46 (by decide)) rfl rfl in_X5 (by decide) (Or.inl kw_60) rfl dX5_goThroughEvents_52 ?_
          refine q_iload (pc := 55) hX 5 rfl dX5_goThroughEvents_55 ?_
          refine q_iload_n (pc := 57) hX 3 rfl rfl dX5_goThroughEvents_57 ?_
          refine q_isub (pc := 58) hX dX5_goThroughEvents_58 ?_
          refine q_iadd (pc := 59) hX dX5_goThroughEvents_59 ?_
          obtain ⟨M11, hM11⟩ : ∃ z : Mem, z = mst M7 38 3 ((M7 38 3) + (r9 - y5)) := ⟨_, rfl⟩
          have hp12 := bnd_nm hM11 hp12
          refine pu_L_cov (pc := 60) hX hM11 (Or.inl kw_60) dX5_goThroughEvents_60 ?_
          cases hp12
          exact Jp12
      refine q_iload (pc := 63) hX 5 rfl dX5_goThroughEvents_63 ?_
      refine q_iload_n (pc := 65) hX 3 rfl rfl dX5_goThroughEvents_65 ?_
      obtain ⟨p15, hp15, hE⟩ := ob_bind hE
      suffices Jp15 : WM X o hn p15 G 0 0 85 6 [(0, .ref (o 38)), (1, .int y3), (2, .int y4), (4, .int y6), (5, .int r9)] [] by
        refine q_icmp_le (pc := 66) hX 85 (by decide) dX5_goThroughEvents_66 (fun c => ?_) (fun c => ?_)
        · rw [if_pos c] at hp15
          refine q_lo [0, 1, 2, 4, 5] rfl ?_
          cases hp15
          exact Jp15
        · rw [if_neg c] at hp15
          refine q_iload_n (pc := 69) hX 1 rfl rfl dX5_goThroughEvents_69 ?_
          refine q_iconst (pc := 70) hX (1) rfl dX5_goThroughEvents_70 ?_
          refine q_icmp_lt (pc := 71) hX 85 (by decide) dX5_goThroughEvents_71 (fun c => ?_) (fun c => ?_)
          · rw [if_pos c] at hp15
            refine q_lo [0, 1, 2, 4, 5] rfl ?_
            cases hp15
            exact Jp15
          · rw [if_neg c] at hp15
            refine q_iload_n (pc := 74) hX 2 rfl rfl dX5_goThroughEvents_74 ?_
            refine q_if_ne (pc := 75) hX 85 (by decide) dX5_goThroughEvents_75 (fun c => ?_) (fun c => ?_)
            · rw [if_neg c] at hp15
              refine q_lo [0, 1, 2, 4, 5] rfl ?_
              cases hp15
              exact Jp15
            · rw [if_pos c] at hp15
              refine q_aload_n (pc := 78) hX 0 rfl rfl dX5_goThroughEvents_78 ?_
              refine q_iload_n (pc := 79) hX 3 rfl rfl dX5_goThroughEvents_79 ?_
              refine q_iload (pc := 80) hX 5 rfl dX5_goThroughEvents_80 ?_
              obtain ⟨r14, hr14, hp15⟩ := ob_bind hp15
              refine q_callV (pc := 82) (id := 38) (As := [.int y5, .int r9]) (rest := []) (rv := none) (st' := []) hX (c_X5_addWorked hr14) (vl_X5_81) (lt46 (by decide)) rfl rfl rfl pd_yX5_addWorked rfl ⟨by decide, by decide⟩ ⟨Nat.le_of_ble_eq_true rfl, Nat.le_of_ble_eq_true rfl⟩ rfl (Nat.le_of_ble_eq_true rfl) rfl dX5_goThroughEvents_82 ?_
              refine q_lo [0, 1, 2, 4, 5] rfl ?_
              cases hp15
              exact Jp15
      refine q_iload_n (pc := 85) hX 1 rfl rfl dX5_goThroughEvents_85 ?_
      refine q_aload_n (pc := 86) hX 0 rfl rfl dX5_goThroughEvents_86 ?_
      refine q_get (pc := 87) (id := 38) (ci := 5) (N := 4) (T := TX5) (C := RX5) hX 1 (lt46 (by decide)) rfl rfl in_X5 (by decide) (Or.inl kw_58) rfl dX5_goThroughEvents_87 ?_
      refine q_iload (pc := 90) hX 3 rfl dX5_goThroughEvents_90 ?_
      refine q_iconst (pc := 92) hX (1) rfl dX5_goThroughEvents_92 ?_
      obtain ⟨r16, hr16, hE⟩ := ob_bind hE
      refine q_callV (pc := 93) (id := 39) (As := [.int y6, .int 1]) (rest := [.int y3]) (rv := some (.int r16)) (st' := [.int r16, .int y3]) hX (c_X4_get (tb_39 hn) hr16) (vl_X5_66) (lt46 (by decide)) (ob_T (tb_39 hn).1 _ _) rfl rfl pd_yX4_get rfl ⟨by decide, by decide⟩ ⟨Nat.le_of_ble_eq_true rfl, Nat.le_of_ble_eq_true rfl⟩ rfl (Nat.le_of_ble_eq_true rfl) rfl dX5_goThroughEvents_93 ?_
      refine q_iadd (pc := 96) hX dX5_goThroughEvents_96 ?_
      refine q_nm (fun z17 hz17 => ?_)
      have hE := bnd_nm hz17 hE
      refine q_istore_n (pc := 97) (lo' := [(0, .ref (o 38)), (1, .int z17), (2, .int y4), (4, .int y6), (5, .int r9)]) hX [1, 0, 2, 3, 4] rfl (by decide) rfl dX5_goThroughEvents_97 ?_
      refine q_iload_n (pc := 98) hX 2 rfl rfl dX5_goThroughEvents_98 ?_
      refine q_aload_n (pc := 99) hX 0 rfl rfl dX5_goThroughEvents_99 ?_
      refine q_get (pc := 100) (id := 38) (ci := 5) (N := 4) (T := TX5) (C := RX5) hX 1 (lt46 (by decide)) rfl rfl in_X5 (by decide) (Or.inl kw_58) rfl dX5_goThroughEvents_100 ?_
      refine q_iload (pc := 103) hX 3 rfl dX5_goThroughEvents_103 ?_
      refine q_iconst (pc := 105) hX (2) rfl dX5_goThroughEvents_105 ?_
      obtain ⟨r18, hr18, hE⟩ := ob_bind hE
      refine q_callV (pc := 106) (id := 39) (As := [.int y6, .int 2]) (rest := [.int y4]) (rv := some (.int r18)) (st' := [.int r18, .int y4]) hX (c_X4_get (tb_39 hn) hr18) (vl_X5_66) (lt46 (by decide)) (ob_T (tb_39 hn).1 _ _) rfl rfl pd_yX4_get rfl ⟨by decide, by decide⟩ ⟨Nat.le_of_ble_eq_true rfl, Nat.le_of_ble_eq_true rfl⟩ rfl (Nat.le_of_ble_eq_true rfl) rfl dX5_goThroughEvents_106 ?_
      refine q_iadd (pc := 109) hX dX5_goThroughEvents_109 ?_
      refine q_nm (fun z19 hz19 => ?_)
      have hE := bnd_nm hz19 hE
      refine q_istore_n (pc := 110) (lo' := [(0, .ref (o 38)), (1, .int z17), (2, .int z19), (4, .int y6), (5, .int r9)]) hX [1, 2, 0, 3, 4] rfl (by decide) rfl dX5_goThroughEvents_110 ?_
      refine q_iload (pc := 111) hX 4 rfl dX5_goThroughEvents_111 ?_
      refine q_istore_n (pc := 113) (lo' := [(0, .ref (o 38)), (1, .int z17), (2, .int z19), (3, .int r9), (4, .int y6), (5, .int r9)]) hX [1, 2, 3, 0, 4, 5] rfl (by decide) rfl dX5_goThroughEvents_113 ?_
      obtain ⟨z20, hz20⟩ : ∃ z : Int32, z = y6 + 1 := ⟨_, rfl⟩
      have hE := bnd_nm hz20 hE
      refine q_iinc (pc := 114) (lo' := [(0, .ref (o 38)), (1, .int z17), (2, .int z19), (3, .int r9), (4, .int z20), (5, .int r9)]) hX 4 z20 [1, 2, 3, 4, 0, 5] rfl (by rw [hz20]; rfl) (by decide) rfl dX5_goThroughEvents_114 ?_
      refine q_goto (pc := 117) hX 21 (by decide) dX5_goThroughEvents_117 ?_
      refine q_lo [0, 1, 2, 3, 4] rfl ?_
      exact ih _ _ _ _ _ p21 hE hx

set_option maxHeartbeats 4000000 in
theorem c_X5_goThroughEvents {Y : Lx} {o : Nat → Nat} {hn : Nat} {M : Mem} {G : Mel} {Mr : Mem} (hE : s_X5_goThroughEvents M = some (Mr)) : MI Y yX5_goThroughEvents cX5_goThroughEvents 6 none 3 70 0 0 [.ref (o 38)] o hn M G (.inl (none)) Mr G := by
  refine MI.of (by decide +kernel) (Nat.le_of_ble_eq_true rfl) (fun X hY hX hE0 hR => ?_)
  change CxOK X RX5 cX5_goThroughEvents 6 3 70 0 0 none at hX
  show WM X o hn M G 0 0 0 6 [(0, .ref (o 38))] []
  unfold s_X5_goThroughEvents at hE
  refine q_aload_n (pc := 0) hX 0 rfl rfl dX5_goThroughEvents_0 ?_
  refine q_get (pc := 1) (id := 38) (ci := 5) (N := 4) (T := TX5) (C := RX5) hX 2 (lt46 (by decide)) rfl rfl in_X5 (by decide) (Or.inl kw_59) rfl dX5_goThroughEvents_1 ?_
  obtain ⟨r1, hr1, hE⟩ := ob_bind hE
  refine q_callV (pc := 4) (id := 41) (As := []) (rest := []) (rv := none) (st' := []) hX (c_X4_clear (tb_41 hn) hr1) (vl_X5_43) (lt46 (by decide)) (ob_T (tb_41 hn).1 _ _) rfl rfl pd_yX4_clear rfl ⟨by decide, by decide⟩ ⟨Nat.le_of_ble_eq_true rfl, Nat.le_of_ble_eq_true rfl⟩ rfl (Nat.le_of_ble_eq_true rfl) rfl dX5_goThroughEvents_4 ?_
  refine q_aload_n (pc := 7) hX 0 rfl rfl dX5_goThroughEvents_7 ?_
  refine q_iconst (pc := 8) hX (0) rfl dX5_goThroughEvents_8 ?_
  obtain ⟨M2, hM2⟩ : ∃ z : Mem, z = mst r1 38 3 0 := ⟨_, rfl⟩
  have hE := bnd_nm hM2 hE
  refine pu_L_cov (pc := 9) hX hM2 (Or.inl kw_60) dX5_goThroughEvents_9 ?_
  refine q_iconst (pc := 12) hX (0) rfl dX5_goThroughEvents_12 ?_
  refine q_istore_n (pc := 13) (lo' := [(0, .ref (o 38)), (1, .int 0)]) hX [1, 0] rfl (by decide) rfl dX5_goThroughEvents_13 ?_
  refine q_iconst (pc := 14) hX (0) rfl dX5_goThroughEvents_14 ?_
  refine q_istore_n (pc := 15) (lo' := [(0, .ref (o 38)), (1, .int 0), (2, .int 0)]) hX [1, 2, 0] rfl (by decide) rfl dX5_goThroughEvents_15 ?_
  refine q_iconst (pc := 16) hX (0) rfl dX5_goThroughEvents_16 ?_
  refine q_istore_n (pc := 17) (lo' := [(0, .ref (o 38)), (1, .int 0), (2, .int 0), (3, .int 0)]) hX [1, 2, 3, 0] rfl (by decide) rfl dX5_goThroughEvents_17 ?_
  refine q_iconst (pc := 18) hX (0) rfl dX5_goThroughEvents_18 ?_
  refine q_istore (pc := 19) (lo' := [(0, .ref (o 38)), (1, .int 0), (2, .int 0), (3, .int 0), (4, .int 0)]) hX [1, 2, 3, 4, 0] (by decide) rfl dX5_goThroughEvents_19 ?_
  obtain ⟨p21, hp21, hE⟩ := ob_bind hE
  refine l_X5_goThroughEvents_21 hX hE0 FU _ _ _ _ _ p21 hp21 ?_
  cases hE
  exact q_vret hX hR (by decide) (by decide) dX5_goThroughEvents_120

set_option maxHeartbeats 4000000 in
theorem c_X5_read {Y : Lx} {o : Nat → Nat} {hn : Nat} {M : Mem} {G : Mel} {e1 : Nat} {Mr : Mem} (he1 : em hn e1) (hE : s_X5_read M e1 = some (Mr)) : MI Y yX5_read cX5_read 2 none 4 95 0 0 [.ref (o 38), .ref (o e1)] o hn M G (.inl (none)) Mr G := by
  refine MI.of (by decide +kernel) (Nat.le_of_ble_eq_true rfl) (fun X hY hX hE0 hR => ?_)
  change CxOK X RX5 cX5_read 2 4 95 0 0 none at hX
  show WM X o hn M G 0 0 0 2 [(0, .ref (o 38)), (1, .ref (o e1))] []
  unfold s_X5_read at hE
  refine q_aload_n (pc := 0) hX 0 rfl rfl dX5_read_0 ?_
  refine q_get (pc := 1) (id := 38) (ci := 5) (N := 4) (T := TX5) (C := RX5) hX 0 (lt46 (by decide)) rfl rfl in_X5 (by decide) (Or.inl kw_56) rfl dX5_read_1 ?_
  refine q_aload_n (pc := 4) hX 1 rfl rfl dX5_read_4 ?_
  refine q_get (pc := 5) (id := e1) (ci := 0) (N := 6) (T := TX0) (C := RX0) hX 3 (em_lt he1) (ob_E he1 _ _) rfl in_X0 (by decide) (Or.inr ⟨_, fn_X5_34⟩) rfl dX5_read_5 ?_
  obtain ⟨r1, hr1, hE⟩ := ob_bind hE
  refine q_callV (pc := 8) (id := 43) (As := [.ref (o (e1 + 1))]) (rest := []) (rv := none) (st' := []) hX (c_X3_read (tb_e1 he1) hr1) (vl_X5_39) (lt46 (by decide)) rfl rfl rfl pd_yX3_read rfl ⟨by decide, by decide⟩ ⟨Nat.le_of_ble_eq_true rfl, Nat.le_of_ble_eq_true rfl⟩ rfl (Nat.le_of_ble_eq_true rfl) rfl dX5_read_8 ?_
  refine q_aload_n (pc := 11) hX 0 rfl rfl dX5_read_11 ?_
  refine q_get (pc := 12) (id := 38) (ci := 5) (N := 4) (T := TX5) (C := RX5) hX 1 (lt46 (by decide)) rfl rfl in_X5 (by decide) (Or.inl kw_58) rfl dX5_read_12 ?_
  obtain ⟨r2, hr2, hE⟩ := ob_bind hE
  refine q_callV (pc := 15) (id := 39) (As := []) (rest := []) (rv := none) (st' := []) hX (c_X4_clear (tb_39 hn) hr2) (vl_X5_43) (lt46 (by decide)) (ob_T (tb_39 hn).1 _ _) rfl rfl pd_yX4_clear rfl ⟨by decide, by decide⟩ ⟨Nat.le_of_ble_eq_true rfl, Nat.le_of_ble_eq_true rfl⟩ rfl (Nat.le_of_ble_eq_true rfl) rfl dX5_read_15 ?_
  refine q_aload_n (pc := 18) hX 0 rfl rfl dX5_read_18 ?_
  refine q_aload_n (pc := 19) hX 0 rfl rfl dX5_read_19 ?_
  refine q_get (pc := 20) (id := 38) (ci := 5) (N := 4) (T := TX5) (C := RX5) hX 0 (lt46 (by decide)) rfl rfl in_X5 (by decide) (Or.inl kw_56) rfl dX5_read_20 ?_
  refine q_get (pc := 23) (id := 43) (ci := 3) (N := 2) (T := TX3) (C := RX3) hX 0 (lt46 (by decide)) rfl rfl in_X3 (by decide) (Or.inr ⟨_, fn_X5_46⟩) rfl dX5_read_23 ?_
  refine q_iconst (pc := 26) hX (1) rfl dX5_read_26 ?_
  refine q_iconst (pc := 27) hX (0) rfl dX5_read_27 ?_
  obtain ⟨r3, hr3, hE⟩ := ob_bind hE
  refine q_callV (pc := 28) (id := 38) (As := [.ref (o 44), .int 1, .int 0]) (rest := []) (rv := none) (st' := []) hX (c_X5_addEvents (tb_44 hn) hr3) (vl_X5_49) (lt46 (by decide)) rfl rfl rfl pd_yX5_addEvents rfl ⟨by decide, by decide⟩ ⟨Nat.le_of_ble_eq_true rfl, Nat.le_of_ble_eq_true rfl⟩ rfl (Nat.le_of_ble_eq_true rfl) rfl dX5_read_28 ?_
  refine q_aload_n (pc := 31) hX 0 rfl rfl dX5_read_31 ?_
  refine q_aload_n (pc := 32) hX 1 rfl rfl dX5_read_32 ?_
  refine q_get (pc := 33) (id := e1) (ci := 0) (N := 6) (T := TX0) (C := RX0) hX 4 (em_lt he1) (ob_E he1 _ _) rfl in_X0 (by decide) (Or.inr ⟨_, fn_X5_53⟩) rfl dX5_read_33 ?_
  refine q_iconst (pc := 36) hX (1) rfl dX5_read_36 ?_
  refine q_iconst (pc := 37) hX (0) rfl dX5_read_37 ?_
  obtain ⟨r4, hr4, hE⟩ := ob_bind hE
  refine q_callV (pc := 38) (id := 38) (As := [.ref (o (e1 + 3)), .int 1, .int 0]) (rest := []) (rv := none) (st' := []) hX (c_X5_addEvents (tb_e3 he1) hr4) (vl_X5_49) (lt46 (by decide)) rfl rfl rfl pd_yX5_addEvents rfl ⟨by decide, by decide⟩ ⟨Nat.le_of_ble_eq_true rfl, Nat.le_of_ble_eq_true rfl⟩ rfl (Nat.le_of_ble_eq_true rfl) rfl dX5_read_38 ?_
  refine q_aload_n (pc := 41) hX 0 rfl rfl dX5_read_41 ?_
  refine q_aload_n (pc := 42) hX 1 rfl rfl dX5_read_42 ?_
  refine q_get (pc := 43) (id := e1) (ci := 0) (N := 6) (T := TX0) (C := RX0) hX 5 (em_lt he1) (ob_E he1 _ _) rfl in_X0 (by decide) (Or.inr ⟨_, fn_X5_56⟩) rfl dX5_read_43 ?_
  refine q_iconst (pc := 46) hX (0) rfl dX5_read_46 ?_
  refine q_iconst (pc := 47) hX (1) rfl dX5_read_47 ?_
  obtain ⟨r5, hr5, hE⟩ := ob_bind hE
  refine q_callV (pc := 48) (id := 38) (As := [.ref (o (e1 + 5)), .int 0, .int 1]) (rest := []) (rv := none) (st' := []) hX (c_X5_addEvents (tb_e5 he1) hr5) (vl_X5_49) (lt46 (by decide)) rfl rfl rfl pd_yX5_addEvents rfl ⟨by decide, by decide⟩ ⟨Nat.le_of_ble_eq_true rfl, Nat.le_of_ble_eq_true rfl⟩ rfl (Nat.le_of_ble_eq_true rfl) rfl dX5_read_48 ?_
  refine q_aload_n (pc := 51) hX 0 rfl rfl dX5_read_51 ?_
  obtain ⟨r6, hr6, hE⟩ := ob_bind hE
  refine q_callV (pc := 52) (id := 38) (As := []) (rest := []) (rv := none) (st' := []) hX (c_X5_goThroughEvents hr6) (vl_X5_59) (lt46 (by decide)) rfl rfl rfl pd_yX5_goThroughEvents rfl ⟨by decide, by decide⟩ ⟨Nat.le_of_ble_eq_true rfl, Nat.le_of_ble_eq_true rfl⟩ rfl (Nat.le_of_ble_eq_true rfl) rfl dX5_read_52 ?_
  cases hE
  exact q_vret hX hR (by decide) (by decide) dX5_read_55

set_option maxHeartbeats 4000000 in
theorem l_X1_takeOffAutomaticBreaks_9 {X : Cx} (hX : CxOK X RX1 cX1_takeOffAutomaticBreaks 5 2 47 0 0 none) (hE0 : CxE X []) {o : Nat → Nat} {hn : Nat} {t1 : Nat} {G : Mel} (ht1 : tb hn t1) : ∀ (f : Nat) (y2 : Int32) (M3 : Mem) (p12 : Int32 × Mem), L_X1_takeOffAutomaticBreaks_9 t1 f y2 M3 = some p12 → WM X o hn p12.2 G 0 0 80 5 [(0, .ref (o 33)), (1, .ref (o t1)), (2, .int p12.1)] [] → WM X o hn M3 G 0 0 9 5 [(0, .ref (o 33)), (1, .ref (o t1)), (2, .int y2)] [] := by
  intro f
  induction f with
  | zero => intro y2 M3 p12 hE; simp [L_X1_takeOffAutomaticBreaks_9] at hE
  | succ f ih =>
    intro y2 M3 p12 hE hx
    rw [L_X1_takeOffAutomaticBreaks_9] at hE
    refine q_iload_n (pc := 9) hX 2 rfl rfl dX1_takeOffAutomaticBreaks_9 ?_
    refine q_aload_n (pc := 10) hX 1 rfl rfl dX1_takeOffAutomaticBreaks_10 ?_
    obtain ⟨r4, hr4, hE⟩ := ob_bind hE
    refine q_callV (pc := 11) (id := t1) (As := []) (rest := [.int y2]) (rv := some (.int r4)) (st' := [.int r4, .int y2]) hX (c_X4_size ht1 hr4) (vl_X1_56) (tb_lt ht1) (ob_T ht1.1 _ _) rfl rfl pd_yX4_size rfl ⟨by decide, by decide⟩ ⟨Nat.le_of_ble_eq_true rfl, Nat.le_of_ble_eq_true rfl⟩ rfl (Nat.le_of_ble_eq_true rfl) rfl dX1_takeOffAutomaticBreaks_11 ?_
    refine q_icmp_ge (pc := 14) hX 80 (by decide) dX1_takeOffAutomaticBreaks_14 (fun c => ?_) (fun c => ?_)
    · rw [if_pos c] at hE
      cases hE
      exact hx
    · rw [if_neg c] at hE
      refine q_aload_n (pc := 17) hX 1 rfl rfl dX1_takeOffAutomaticBreaks_17 ?_
      refine q_iload_n (pc := 18) hX 2 rfl rfl dX1_takeOffAutomaticBreaks_18 ?_
      refine q_iconst (pc := 19) hX (0) rfl dX1_takeOffAutomaticBreaks_19 ?_
      obtain ⟨r5, hr5, hE⟩ := ob_bind hE
      refine q_callV (pc := 20) (id := t1) (As := [.int y2, .int 0]) (rest := []) (rv := some (.int r5)) (st' := [.int r5]) hX (c_X4_get ht1 hr5) (vl_X1_60) (tb_lt ht1) (ob_T ht1.1 _ _) rfl rfl pd_yX4_get rfl ⟨by decide, by decide⟩ ⟨Nat.le_of_ble_eq_true rfl, Nat.le_of_ble_eq_true rfl⟩ rfl (Nat.le_of_ble_eq_true rfl) rfl dX1_takeOffAutomaticBreaks_20 ?_
      refine q_istore_n (pc := 23) (lo' := [(0, .ref (o 33)), (1, .ref (o t1)), (2, .int y2), (3, .int r5)]) hX [1, 2, 3, 0] rfl (by decide) rfl dX1_takeOffAutomaticBreaks_23 ?_
      refine q_aload_n (pc := 24) hX 1 rfl rfl dX1_takeOffAutomaticBreaks_24 ?_
      refine q_iload_n (pc := 25) hX 2 rfl rfl dX1_takeOffAutomaticBreaks_25 ?_
      refine q_iconst (pc := 26) hX (1) rfl dX1_takeOffAutomaticBreaks_26 ?_
      obtain ⟨r6, hr6, hE⟩ := ob_bind hE
      refine q_callV (pc := 27) (id := t1) (As := [.int y2, .int 1]) (rest := []) (rv := some (.int r6)) (st' := [.int r6]) hX (c_X4_get ht1 hr6) (vl_X1_60) (tb_lt ht1) (ob_T ht1.1 _ _) rfl rfl pd_yX4_get rfl ⟨by decide, by decide⟩ ⟨Nat.le_of_ble_eq_true rfl, Nat.le_of_ble_eq_true rfl⟩ rfl (Nat.le_of_ble_eq_true rfl) rfl dX1_takeOffAutomaticBreaks_27 ?_
      refine q_istore (pc := 30) (lo' := [(0, .ref (o 33)), (1, .ref (o t1)), (2, .int y2), (3, .int r5), (4, .int r6)]) hX [1, 2, 3, 4, 0] (by decide) rfl dX1_takeOffAutomaticBreaks_30 ?_
      refine q_aload_n (pc := 32) hX 0 rfl rfl dX1_takeOffAutomaticBreaks_32 ?_
      refine q_get (pc := 33) (id := 33) (ci := 1) (N := 3) (T := TX1) (C := RX1) hX 1 (lt46 (by decide)) rfl rfl in_X1 (by decide) (Or.inl kw_47) rfl dX1_takeOffAutomaticBreaks_33 ?_
      refine q_iload_n (pc := 36) hX 3 rfl rfl dX1_takeOffAutomaticBreaks_36 ?_
      refine q_iload (pc := 37) hX 4 rfl dX1_takeOffAutomaticBreaks_37 ?_
      refine q_iload_n (pc := 39) hX 3 rfl rfl dX1_takeOffAutomaticBreaks_39 ?_
      refine q_sipush (pc := 40) hX (360) (by decide) dX1_takeOffAutomaticBreaks_40 ?_
      refine q_iadd (pc := 43) hX dX1_takeOffAutomaticBreaks_43 ?_
      refine r_min (pc := 44) hX kw_228 kw_191 kw_192 kw_193 (by decide) (Nat.le_of_ble_eq_true rfl) (Nat.le_of_ble_eq_true rfl) (Nat.le_of_ble_eq_true rfl) dX1_takeOffAutomaticBreaks_44 ?_
      obtain ⟨r7, hr7, hE⟩ := ob_bind hE
      refine q_callV (pc := 47) (id := 34) (As := [.int r5, .int (if r5 + 360 < r6 then r5 + 360 else r6)]) (rest := []) (rv := none) (st' := []) hX (c_X4_addSpan (tb_34 hn) hr7) (vl_X1_69) (lt46 (by decide)) (ob_T (tb_34 hn).1 _ _) rfl rfl pd_yX4_addSpan rfl ⟨by decide, by decide⟩ ⟨Nat.le_of_ble_eq_true rfl, Nat.le_of_ble_eq_true rfl⟩ rfl (Nat.le_of_ble_eq_true rfl) rfl dX1_takeOffAutomaticBreaks_47 ?_
      refine q_iload (pc := 50) hX 4 rfl dX1_takeOffAutomaticBreaks_50 ?_
      refine q_iload_n (pc := 52) hX 3 rfl rfl dX1_takeOffAutomaticBreaks_52 ?_
      refine q_sipush (pc := 53) hX (390) (by decide) dX1_takeOffAutomaticBreaks_53 ?_
      refine q_iadd (pc := 56) hX dX1_takeOffAutomaticBreaks_56 ?_
      obtain ⟨p10, hp10, hE⟩ := ob_bind hE
      suffices Jp10 : WM X o hn p10 G 0 0 74 5 [(0, .ref (o 33)), (1, .ref (o t1)), (2, .int y2)] [] by
        refine q_icmp_le (pc := 57) hX 74 (by decide) dX1_takeOffAutomaticBreaks_57 (fun c => ?_) (fun c => ?_)
        · rw [if_pos c] at hp10
          refine q_lo [0, 1, 2] rfl ?_
          cases hp10
          exact Jp10
        · rw [if_neg c] at hp10
          refine q_aload_n (pc := 60) hX 0 rfl rfl dX1_takeOffAutomaticBreaks_60 ?_
          refine q_get (pc := 61) (id := 33) (ci := 1) (N := 3) (T := TX1) (C := RX1) hX 1 (lt46 (by decide)) rfl rfl in_X1 (by decide) (Or.inl kw_47) rfl dX1_takeOffAutomaticBreaks_61 ?_
          refine q_iload_n (pc := 64) hX 3 rfl rfl dX1_takeOffAutomaticBreaks_64 ?_
          refine q_sipush (pc := 65) hX (390) (by decide) dX1_takeOffAutomaticBreaks_65 ?_
          refine q_iadd (pc := 68) hX dX1_takeOffAutomaticBreaks_68 ?_
          refine q_iload (pc := 69) hX 4 rfl dX1_takeOffAutomaticBreaks_69 ?_
          obtain ⟨r9, hr9, hp10⟩ := ob_bind hp10
          refine q_callV (pc := 71) (id := 34) (As := [.int (r5 + 390), .int r6]) (rest := []) (rv := none) (st' := []) hX (c_X4_addSpan (tb_34 hn) hr9) (vl_X1_69) (lt46 (by decide)) (ob_T (tb_34 hn).1 _ _) rfl rfl pd_yX4_addSpan rfl ⟨by decide, by decide⟩ ⟨Nat.le_of_ble_eq_true rfl, Nat.le_of_ble_eq_true rfl⟩ rfl (Nat.le_of_ble_eq_true rfl) rfl dX1_takeOffAutomaticBreaks_71 ?_
          refine q_lo [0, 1, 2] rfl ?_
          cases hp10
          exact Jp10
      obtain ⟨z11, hz11⟩ : ∃ z : Int32, z = y2 + 1 := ⟨_, rfl⟩
      have hE := bnd_nm hz11 hE
      refine q_iinc (pc := 74) (lo' := [(0, .ref (o 33)), (1, .ref (o t1)), (2, .int z11)]) hX 2 z11 [1, 2, 0] rfl (by rw [hz11]; rfl) (by decide) rfl dX1_takeOffAutomaticBreaks_74 ?_
      refine q_goto (pc := 77) hX 9 (by decide) dX1_takeOffAutomaticBreaks_77 ?_
      exact ih _ _ p12 hE hx

set_option maxHeartbeats 4000000 in
theorem c_X1_takeOffAutomaticBreaks {Y : Lx} {o : Nat → Nat} {hn : Nat} {M : Mem} {G : Mel} {t1 : Nat} {Mr : Mem} (ht1 : tb hn t1) (hE : s_X1_takeOffAutomaticBreaks M t1 = some (Mr)) : MI Y yX1_takeOffAutomaticBreaks cX1_takeOffAutomaticBreaks 5 none 2 47 0 0 [.ref (o 33), .ref (o t1)] o hn M G (.inl (none)) Mr G := by
  refine MI.of (by decide +kernel) (Nat.le_of_ble_eq_true rfl) (fun X hY hX hE0 hR => ?_)
  change CxOK X RX1 cX1_takeOffAutomaticBreaks 5 2 47 0 0 none at hX
  show WM X o hn M G 0 0 0 5 [(0, .ref (o 33)), (1, .ref (o t1))] []
  unfold s_X1_takeOffAutomaticBreaks at hE
  refine q_aload_n (pc := 0) hX 0 rfl rfl dX1_takeOffAutomaticBreaks_0 ?_
  refine q_get (pc := 1) (id := 33) (ci := 1) (N := 3) (T := TX1) (C := RX1) hX 1 (lt46 (by decide)) rfl rfl in_X1 (by decide) (Or.inl kw_47) rfl dX1_takeOffAutomaticBreaks_1 ?_
  obtain ⟨r1, hr1, hE⟩ := ob_bind hE
  refine q_callV (pc := 4) (id := 34) (As := []) (rest := []) (rv := none) (st' := []) hX (c_X4_clear (tb_34 hn) hr1) (vl_X1_41) (lt46 (by decide)) (ob_T (tb_34 hn).1 _ _) rfl rfl pd_yX4_clear rfl ⟨by decide, by decide⟩ ⟨Nat.le_of_ble_eq_true rfl, Nat.le_of_ble_eq_true rfl⟩ rfl (Nat.le_of_ble_eq_true rfl) rfl dX1_takeOffAutomaticBreaks_4 ?_
  refine q_iconst (pc := 7) hX (0) rfl dX1_takeOffAutomaticBreaks_7 ?_
  refine q_istore_n (pc := 8) (lo' := [(0, .ref (o 33)), (1, .ref (o t1)), (2, .int 0)]) hX [1, 2, 0] rfl (by decide) rfl dX1_takeOffAutomaticBreaks_8 ?_
  obtain ⟨p12, hp12, hE⟩ := ob_bind hE
  refine l_X1_takeOffAutomaticBreaks_9 hX hE0 ht1 FU _ _ p12 hp12 ?_
  cases hE
  exact q_vret hX hR (by decide) (by decide) dX1_takeOffAutomaticBreaks_80

set_option maxHeartbeats 4000000 in
theorem l_X6_minutesOnDay_4 {X : Cx} (hX : CxOK X RX6 cX6_minutesOnDay 6 1 24 0 0 (some .int)) (hE0 : CxE X []) {o : Nat → Nat} {hn : Nat} {M : Mem} {t0 : Nat} {x1 : Int32} {G : Mel} (ht0 : tb hn t0) : ∀ (f : Nat) (y1 : Int32) (y2 : Int32) (p10 : Int32 × Int32), L_X6_minutesOnDay_4 M t0 x1 f y1 y2 = some p10 → WM X o hn M G 0 0 64 6 [(0, .ref (o t0)), (1, .int x1), (2, .int p10.1), (3, .int p10.2)] [] → WM X o hn M G 0 0 4 6 [(0, .ref (o t0)), (1, .int x1), (2, .int y1), (3, .int y2)] [] := by
  intro f
  induction f with
  | zero => intro y1 y2 p10 hE; simp [L_X6_minutesOnDay_4] at hE
  | succ f ih =>
    intro y1 y2 p10 hE hx
    rw [L_X6_minutesOnDay_4] at hE
    refine q_iload_n (pc := 4) hX 3 rfl rfl dX6_minutesOnDay_4 ?_
    refine q_aload_n (pc := 5) hX 0 rfl rfl dX6_minutesOnDay_5 ?_
    obtain ⟨r3, hr3, hE⟩ := ob_bind hE
    refine q_callV (pc := 6) (id := t0) (As := []) (rest := [.int y2]) (rv := some (.int r3)) (st' := [.int r3, .int y2]) hX (c_X4_size ht0 hr3) (vl_X6_93) (tb_lt ht0) (ob_T ht0.1 _ _) rfl rfl pd_yX4_size rfl ⟨by decide, by decide⟩ ⟨Nat.le_of_ble_eq_true rfl, Nat.le_of_ble_eq_true rfl⟩ rfl (Nat.le_of_ble_eq_true rfl) rfl dX6_minutesOnDay_6 ?_
    refine q_icmp_ge (pc := 9) hX 64 (by decide) dX6_minutesOnDay_9 (fun c => ?_) (fun c => ?_)
    · rw [if_pos c] at hE
      cases hE
      exact hx
    · rw [if_neg c] at hE
      refine q_aload_n (pc := 12) hX 0 rfl rfl dX6_minutesOnDay_12 ?_
      refine q_iload_n (pc := 13) hX 3 rfl rfl dX6_minutesOnDay_13 ?_
      refine q_iconst (pc := 14) hX (0) rfl dX6_minutesOnDay_14 ?_
      obtain ⟨r4, hr4, hE⟩ := ob_bind hE
      refine q_callV (pc := 15) (id := t0) (As := [.int y2, .int 0]) (rest := []) (rv := some (.int r4)) (st' := [.int r4]) hX (c_X4_get ht0 hr4) (vl_X6_102) (tb_lt ht0) (ob_T ht0.1 _ _) rfl rfl pd_yX4_get rfl ⟨by decide, by decide⟩ ⟨Nat.le_of_ble_eq_true rfl, Nat.le_of_ble_eq_true rfl⟩ rfl (Nat.le_of_ble_eq_true rfl) rfl dX6_minutesOnDay_15 ?_
      refine q_iload_n (pc := 18) hX 1 rfl rfl dX6_minutesOnDay_18 ?_
      refine q_sipush (pc := 19) hX (1440) (by decide) dX6_minutesOnDay_19 ?_
      refine q_imul (pc := 22) hX dX6_minutesOnDay_22 ?_
      refine r_max (pc := 23) hX kw_239 kw_200 kw_192 kw_201 (by decide) (Nat.le_of_ble_eq_true rfl) (Nat.le_of_ble_eq_true rfl) (Nat.le_of_ble_eq_true rfl) dX6_minutesOnDay_23 ?_
      refine q_nm (fun z5 hz5 => ?_)
      have hE := bnd_nm hz5 hE
      refine q_istore (pc := 26) (lo' := [(0, .ref (o t0)), (1, .int x1), (2, .int y1), (3, .int y2), (4, .int z5)]) hX [1, 2, 3, 4, 0] (by decide) rfl dX6_minutesOnDay_26 ?_
      refine q_aload_n (pc := 28) hX 0 rfl rfl dX6_minutesOnDay_28 ?_
      refine q_iload_n (pc := 29) hX 3 rfl rfl dX6_minutesOnDay_29 ?_
      refine q_iconst (pc := 30) hX (1) rfl dX6_minutesOnDay_30 ?_
      obtain ⟨r6, hr6, hE⟩ := ob_bind hE
      refine q_callV (pc := 31) (id := t0) (As := [.int y2, .int 1]) (rest := []) (rv := some (.int r6)) (st' := [.int r6]) hX (c_X4_get ht0 hr6) (vl_X6_102) (tb_lt ht0) (ob_T ht0.1 _ _) rfl rfl pd_yX4_get rfl ⟨by decide, by decide⟩ ⟨Nat.le_of_ble_eq_true rfl, Nat.le_of_ble_eq_true rfl⟩ rfl (Nat.le_of_ble_eq_true rfl) rfl dX6_minutesOnDay_31 ?_
      refine q_iload_n (pc := 34) hX 1 rfl rfl dX6_minutesOnDay_34 ?_
      refine q_iconst (pc := 35) hX (1) rfl dX6_minutesOnDay_35 ?_
      refine q_iadd (pc := 36) hX dX6_minutesOnDay_36 ?_
      refine q_sipush (pc := 37) hX (1440) (by decide) dX6_minutesOnDay_37 ?_
      refine q_imul (pc := 40) hX dX6_minutesOnDay_40 ?_
      refine r_min (pc := 41) hX kw_240 kw_191 kw_192 kw_193 (by decide) (Nat.le_of_ble_eq_true rfl) (Nat.le_of_ble_eq_true rfl) (Nat.le_of_ble_eq_true rfl) dX6_minutesOnDay_41 ?_
      refine q_nm (fun z7 hz7 => ?_)
      have hE := bnd_nm hz7 hE
      refine q_istore (pc := 44) (lo' := [(0, .ref (o t0)), (1, .int x1), (2, .int y1), (3, .int y2), (4, .int z5), (5, .int z7)]) hX [1, 2, 3, 4, 5, 0] (by decide) rfl dX6_minutesOnDay_44 ?_
      refine q_iload_n (pc := 46) hX 2 rfl rfl dX6_minutesOnDay_46 ?_
      refine q_iload (pc := 47) hX 5 rfl dX6_minutesOnDay_47 ?_
      refine q_iload (pc := 49) hX 4 rfl dX6_minutesOnDay_49 ?_
      refine q_isub (pc := 51) hX dX6_minutesOnDay_51 ?_
      refine q_iconst (pc := 52) hX (0) rfl dX6_minutesOnDay_52 ?_
      refine r_max (pc := 53) hX kw_239 kw_200 kw_192 kw_201 (by decide) (Nat.le_of_ble_eq_true rfl) (Nat.le_of_ble_eq_true rfl) (Nat.le_of_ble_eq_true rfl) dX6_minutesOnDay_53 ?_
      refine q_iadd (pc := 56) hX dX6_minutesOnDay_56 ?_
      refine q_nm (fun z8 hz8 => ?_)
      have hE := bnd_nm hz8 hE
      refine q_istore_n (pc := 57) (lo' := [(0, .ref (o t0)), (1, .int x1), (2, .int z8), (3, .int y2), (4, .int z5), (5, .int z7)]) hX [1, 2, 0, 3, 4, 5] rfl (by decide) rfl dX6_minutesOnDay_57 ?_
      obtain ⟨z9, hz9⟩ : ∃ z : Int32, z = y2 + 1 := ⟨_, rfl⟩
      have hE := bnd_nm hz9 hE
      refine q_iinc (pc := 58) (lo' := [(0, .ref (o t0)), (1, .int x1), (2, .int z8), (3, .int z9), (4, .int z5), (5, .int z7)]) hX 3 z9 [1, 2, 3, 0, 4, 5] rfl (by rw [hz9]; rfl) (by decide) rfl dX6_minutesOnDay_58 ?_
      refine q_goto (pc := 61) hX 4 (by decide) dX6_minutesOnDay_61 ?_
      refine q_lo [0, 1, 2, 3] rfl ?_
      exact ih _ _ p10 hE hx

set_option maxHeartbeats 4000000 in
theorem c_X6_minutesOnDay {Y : Lx} {o : Nat → Nat} {hn : Nat} {M : Mem} {G : Mel} {t0 : Nat} {x1 : Int32} {rr : Int32} (ht0 : tb hn t0) (hE : s_X6_minutesOnDay M t0 x1 = some (rr)) : MI Y yX6_minutesOnDay cX6_minutesOnDay 6 (some .int) 1 24 0 0 [.ref (o t0), .int x1] o hn M G (.inl (some (.int rr))) M G := by
  refine MI.of (by decide +kernel) (Nat.le_of_ble_eq_true rfl) (fun X hY hX hE0 hR => ?_)
  change CxOK X RX6 cX6_minutesOnDay 6 1 24 0 0 (some .int) at hX
  show WM X o hn M G 0 0 0 6 [(0, .ref (o t0)), (1, .int x1)] []
  unfold s_X6_minutesOnDay at hE
  refine q_iconst (pc := 0) hX (0) rfl dX6_minutesOnDay_0 ?_
  refine q_istore_n (pc := 1) (lo' := [(0, .ref (o t0)), (1, .int x1), (2, .int 0)]) hX [1, 2, 0] rfl (by decide) rfl dX6_minutesOnDay_1 ?_
  refine q_iconst (pc := 2) hX (0) rfl dX6_minutesOnDay_2 ?_
  refine q_istore_n (pc := 3) (lo' := [(0, .ref (o t0)), (1, .int x1), (2, .int 0), (3, .int 0)]) hX [1, 2, 3, 0] rfl (by decide) rfl dX6_minutesOnDay_3 ?_
  obtain ⟨p10, hp10, hE⟩ := ob_bind hE
  refine l_X6_minutesOnDay_4 hX hE0 ht0 FU _ _ p10 hp10 ?_
  refine q_iload_n (pc := 64) hX 2 rfl rfl dX6_minutesOnDay_64 ?_
  cases hE
  exact q_iret hX hR (by decide) (by decide) dX6_minutesOnDay_65

set_option maxHeartbeats 4000000 in
theorem l_X1_isFull_4 {X : Cx} (hX : CxOK X RX1 cX1_isFull 3 2 49 0 0 (some .boolean)) (hE0 : CxE X []) {o : Nat → Nat} {hn : Nat} {M : Mem} {G : Mel} : ∀ (f : Nat) (y1 : Int32) (y2 : Int32) (p7 : Int32 × Int32), L_X1_isFull_4 M f y1 y2 = some p7 → WM X o hn M G 0 0 37 3 [(0, .ref (o 33)), (1, .int p7.1), (2, .int p7.2)] [] → WM X o hn M G 0 0 4 3 [(0, .ref (o 33)), (1, .int y1), (2, .int y2)] [] := by
  intro f
  induction f with
  | zero => intro y1 y2 p7 hE; simp [L_X1_isFull_4] at hE
  | succ f ih =>
    intro y1 y2 p7 hE hx
    rw [L_X1_isFull_4] at hE
    refine q_iload_n (pc := 4) hX 2 rfl rfl dX1_isFull_4 ?_
    refine q_bipush (pc := 5) hX (6) (by decide) dX1_isFull_5 ?_
    refine q_icmp_ge (pc := 7) hX 37 (by decide) dX1_isFull_7 (fun c => ?_) (fun c => ?_)
    · rw [if_pos c] at hE
      cases hE
      exact hx
    · rw [if_neg c] at hE
      refine q_iload_n (pc := 10) hX 1 rfl rfl dX1_isFull_10 ?_
      obtain ⟨p5, hp5, hE⟩ := ob_bind hE
      suffices Jp5 : WM X o hn M G 0 0 30 3 [(0, .ref (o 33)), (2, .int y2)] [.int p5] by
        refine q_if_eq (pc := 11) hX 29 (by decide) dX1_isFull_11 (fun c => ?_) (fun c => ?_)
        · rw [if_pos c] at hp5
          refine q_iconst (pc := 29) hX (0) rfl dX1_isFull_29 ?_
          refine q_lo [0, 2] rfl ?_
          cases hp5
          exact Jp5
        · rw [if_neg c] at hp5
          refine q_aload_n (pc := 14) hX 0 rfl rfl dX1_isFull_14 ?_
          refine q_get (pc := 15) (id := 33) (ci := 1) (N := 3) (T := TX1) (C := RX1) hX 1 (lt46 (by decide)) rfl rfl in_X1 (by decide) (Or.inl kw_47) rfl dX1_isFull_15 ?_
          refine q_iload_n (pc := 18) hX 2 rfl rfl dX1_isFull_18 ?_
          obtain ⟨r4, hr4, hp5⟩ := ob_bind hp5
          refine q_callSN (pc := 19) (As := [.ref (o 34), .int y2]) (rest := []) (rv := some (.int r4)) (st' := [.int r4]) hX (c_X6_minutesOnDay (tb_34 hn) hr4) mn_X1_52 kw_237 kw_2 kw_238 (by decide) pd_yX6_minutesOnDay rfl ⟨by decide, by decide⟩ ⟨Nat.le_of_ble_eq_true rfl, Nat.le_of_ble_eq_true rfl⟩ rfl (Nat.le_of_ble_eq_true rfl) rfl dX1_isFull_19 ?_
          refine q_if_le (pc := 22) hX 29 (by decide) dX1_isFull_22 (fun c => ?_) (fun c => ?_)
          · rw [if_pos c] at hp5
            refine q_iconst (pc := 29) hX (0) rfl dX1_isFull_29 ?_
            refine q_lo [0, 2] rfl ?_
            cases hp5
            exact Jp5
          · rw [if_neg c] at hp5
            refine q_iconst (pc := 25) hX (1) rfl dX1_isFull_25 ?_
            refine q_goto (pc := 26) hX 30 (by decide) dX1_isFull_26 ?_
            refine q_lo [0, 2] rfl ?_
            cases hp5
            exact Jp5
      refine q_istore_n (pc := 30) (lo' := [(0, .ref (o 33)), (1, .int p5), (2, .int y2)]) hX [1, 0, 2] rfl (by decide) rfl dX1_isFull_30 ?_
      obtain ⟨z6, hz6⟩ : ∃ z : Int32, z = y2 + 1 := ⟨_, rfl⟩
      have hE := bnd_nm hz6 hE
      refine q_iinc (pc := 31) (lo' := [(0, .ref (o 33)), (1, .int p5), (2, .int z6)]) hX 2 z6 [1, 2, 0] rfl (by rw [hz6]; rfl) (by decide) rfl dX1_isFull_31 ?_
      refine q_goto (pc := 34) hX 4 (by decide) dX1_isFull_34 ?_
      exact ih _ _ p7 hE hx

set_option maxHeartbeats 4000000 in
theorem c_X1_isFull {Y : Lx} {o : Nat → Nat} {hn : Nat} {M : Mem} {G : Mel} {rr : Int32} (hE : s_X1_isFull M = some (rr)) : MI Y yX1_isFull cX1_isFull 3 (some .boolean) 2 49 0 0 [.ref (o 33)] o hn M G (.inl (some (.int rr))) M G := by
  refine MI.of (by decide +kernel) (Nat.le_of_ble_eq_true rfl) (fun X hY hX hE0 hR => ?_)
  change CxOK X RX1 cX1_isFull 3 2 49 0 0 (some .boolean) at hX
  show WM X o hn M G 0 0 0 3 [(0, .ref (o 33))] []
  unfold s_X1_isFull at hE
  refine q_iconst (pc := 0) hX (1) rfl dX1_isFull_0 ?_
  refine q_istore_n (pc := 1) (lo' := [(0, .ref (o 33)), (1, .int 1)]) hX [1, 0] rfl (by decide) rfl dX1_isFull_1 ?_
  refine q_iconst (pc := 2) hX (0) rfl dX1_isFull_2 ?_
  refine q_istore_n (pc := 3) (lo' := [(0, .ref (o 33)), (1, .int 1), (2, .int 0)]) hX [1, 2, 0] rfl (by decide) rfl dX1_isFull_3 ?_
  obtain ⟨p7, hp7, hE⟩ := ob_bind hE
  refine l_X1_isFull_4 hX hE0 FU _ _ p7 hp7 ?_
  refine q_iload_n (pc := 37) hX 1 rfl rfl dX1_isFull_37 ?_
  obtain ⟨v8, hv8, hE⟩ := ob_bind hE
  obtain ⟨hqv8, hbv8⟩ := bchk_ok hv8
  rw [hqv8]
  cases hE
  exact q_zret hX hbv8 hR (by decide) (by decide) dX1_isFull_38

set_option maxHeartbeats 4000000 in
theorem c_X1_untilLimit {Y : Lx} {o : Nat → Nat} {hn : Nat} {M : Mem} {G : Mel} {x0 : Int32} {x1 : Int32} {rr : Int32} (hE : s_X1_untilLimit x0 x1 = some (rr)) : MI Y yX1_untilLimit cX1_untilLimit 3 (some .int) 1 24 0 0 [.int x0, .int x1] o hn M G (.inl (some (.int rr))) M G := by
  refine MI.of (by decide +kernel) (Nat.le_of_ble_eq_true rfl) (fun X hY hX hE0 hR => ?_)
  change CxOK X RX1 cX1_untilLimit 3 1 24 0 0 (some .int) at hX
  show WM X o hn M G 0 0 0 3 [(0, .int x0), (1, .int x1)] []
  unfold s_X1_untilLimit at hE
  refine q_sipush (pc := 0) hX (10080) (by decide) dX1_untilLimit_0 ?_
  refine q_istore_n (pc := 3) (lo' := [(0, .int x0), (1, .int x1), (2, .int 10080)]) hX [1, 2, 0] rfl (by decide) rfl dX1_untilLimit_3 ?_
  refine q_iload_n (pc := 4) hX 0 rfl rfl dX1_untilLimit_4 ?_
  refine q_sipush (pc := 5) hX (480) (by decide) dX1_untilLimit_5 ?_
  obtain ⟨p4, hp4, hE⟩ := bnd_ob hE
  suffices Jp4 : WM X o hn M G 0 0 33 3 [(1, .int x1), (2, .int p4)] [] by
    refine q_icmp_ge (pc := 8) hX 20 (by decide) dX1_untilLimit_8 (fun c => ?_) (fun c => ?_)
    · rw [if_pos c] at hp4
      refine q_iload_n (pc := 20) hX 0 rfl rfl dX1_untilLimit_20 ?_
      refine q_sipush (pc := 21) hX (720) (by decide) dX1_untilLimit_21 ?_
      refine q_icmp_ge (pc := 24) hX 33 (by decide) dX1_untilLimit_24 (fun c => ?_) (fun c => ?_)
      · rw [if_pos c] at hp4
        refine q_lo [1, 2] rfl ?_
        cases hp4
        exact Jp4
      · rw [if_neg c] at hp4
        refine q_sipush (pc := 27) hX (720) (by decide) dX1_untilLimit_27 ?_
        refine q_iload_n (pc := 30) hX 0 rfl rfl dX1_untilLimit_30 ?_
        refine q_isub (pc := 31) hX dX1_untilLimit_31 ?_
        refine q_nm (fun z2 hz2 => ?_)
        have hp4 := bnd_nm hz2 hp4
        refine q_istore_n (pc := 32) (lo' := [(0, .int x0), (1, .int x1), (2, .int z2)]) hX [1, 2, 0] rfl (by decide) rfl dX1_untilLimit_32 ?_
        refine q_lo [1, 2] rfl ?_
        cases hp4
        exact Jp4
    · rw [if_neg c] at hp4
      refine q_sipush (pc := 11) hX (480) (by decide) dX1_untilLimit_11 ?_
      refine q_iload_n (pc := 14) hX 0 rfl rfl dX1_untilLimit_14 ?_
      refine q_isub (pc := 15) hX dX1_untilLimit_15 ?_
      refine q_nm (fun z3 hz3 => ?_)
      have hp4 := bnd_nm hz3 hp4
      refine q_istore_n (pc := 16) (lo' := [(0, .int x0), (1, .int x1), (2, .int z3)]) hX [1, 2, 0] rfl (by decide) rfl dX1_untilLimit_16 ?_
      refine q_goto (pc := 17) hX 33 (by decide) dX1_untilLimit_17 ?_
      refine q_lo [1, 2] rfl ?_
      cases hp4
      exact Jp4
  refine q_iload_n (pc := 33) hX 0 rfl rfl dX1_untilLimit_33 ?_
  refine q_sipush (pc := 34) hX (2400) (by decide) dX1_untilLimit_34 ?_
  refine q_icmp_ge (pc := 37) hX 52 (by decide) dX1_untilLimit_37 (fun c => ?_) (fun c => ?_)
  · rw [if_pos c] at hE
    refine q_iload_n (pc := 52) hX 1 rfl rfl dX1_untilLimit_52 ?_
    cases hE
    exact q_iret hX hR (by decide) (by decide) dX1_untilLimit_53
  · rw [if_neg c] at hE
    refine q_iload_n (pc := 40) hX 1 rfl rfl dX1_untilLimit_40 ?_
    refine q_sipush (pc := 41) hX (2400) (by decide) dX1_untilLimit_41 ?_
    refine q_iload_n (pc := 44) hX 0 rfl rfl dX1_untilLimit_44 ?_
    refine q_isub (pc := 45) hX dX1_untilLimit_45 ?_
    refine r_min (pc := 46) hX kw_228 kw_191 kw_192 kw_193 (by decide) (Nat.le_of_ble_eq_true rfl) (Nat.le_of_ble_eq_true rfl) (Nat.le_of_ble_eq_true rfl) dX1_untilLimit_46 ?_
    refine q_goto (pc := 49) hX 53 (by decide) dX1_untilLimit_49 ?_
    cases hE
    exact q_iret hX hR (by decide) (by decide) dX1_untilLimit_53

set_option maxHeartbeats 4000000 in
theorem c_X1_categoryFor {Y : Lx} {o : Nat → Nat} {hn : Nat} {M : Mem} {G : Mel} {x0 : Int32} {x1 : Int32} {x2 : Int32} {rr : Int32} (hE : s_X1_categoryFor x0 x1 x2 = some (rr)) : MI Y yX1_categoryFor cX1_categoryFor 3 (some .int) 0 0 0 0 [.int x0, .int x1, .int x2] o hn M G (.inl (some (.int rr))) M G := by
  refine MI.of (by decide +kernel) (Nat.le_of_ble_eq_true rfl) (fun X hY hX hE0 hR => ?_)
  change CxOK X RX1 cX1_categoryFor 3 0 0 0 0 (some .int) at hX
  show WM X o hn M G 0 0 0 3 [(0, .int x0), (1, .int x1), (2, .int x2)] []
  unfold s_X1_categoryFor at hE
  refine q_iload_n (pc := 0) hX 0 rfl rfl dX1_categoryFor_0 ?_
  refine q_sipush (pc := 1) hX (720) (by decide) dX1_categoryFor_1 ?_
  refine q_icmp_ge (pc := 4) hX 18 (by decide) dX1_categoryFor_4 (fun c => ?_) (fun c => ?_)
  · rw [if_pos c] at hE
    refine q_iconst (pc := 18) hX (2) rfl dX1_categoryFor_18 ?_
    cases hE
    exact q_iret hX hR (by decide) (by decide) dX1_categoryFor_19
  · rw [if_neg c] at hE
    refine q_iload_n (pc := 7) hX 2 rfl rfl dX1_categoryFor_7 ?_
    refine q_if_eq (pc := 8) hX 20 (by decide) dX1_categoryFor_8 (fun c => ?_) (fun c => ?_)
    · rw [if_pos c] at hE
      refine q_iload_n (pc := 20) hX 0 rfl rfl dX1_categoryFor_20 ?_
      refine q_sipush (pc := 21) hX (480) (by decide) dX1_categoryFor_21 ?_
      refine q_icmp_ge (pc := 24) hX 38 (by decide) dX1_categoryFor_24 (fun c => ?_) (fun c => ?_)
      · rw [if_pos c] at hE
        refine q_iconst (pc := 38) hX (1) rfl dX1_categoryFor_38 ?_
        refine q_goto (pc := 39) hX 43 (by decide) dX1_categoryFor_39 ?_
        cases hE
        exact q_iret hX hR (by decide) (by decide) dX1_categoryFor_43
      · rw [if_neg c] at hE
        refine q_iload_n (pc := 27) hX 1 rfl rfl dX1_categoryFor_27 ?_
        refine q_sipush (pc := 28) hX (2400) (by decide) dX1_categoryFor_28 ?_
        refine q_icmp_ge (pc := 31) hX 38 (by decide) dX1_categoryFor_31 (fun c => ?_) (fun c => ?_)
        · rw [if_pos c] at hE
          refine q_iconst (pc := 38) hX (1) rfl dX1_categoryFor_38 ?_
          refine q_goto (pc := 39) hX 43 (by decide) dX1_categoryFor_39 ?_
          cases hE
          exact q_iret hX hR (by decide) (by decide) dX1_categoryFor_43
        · rw [if_neg c] at hE
          refine q_iload_n (pc := 34) hX 2 rfl rfl dX1_categoryFor_34 ?_
          refine q_if_eq (pc := 35) hX 42 (by decide) dX1_categoryFor_35 (fun c => ?_) (fun c => ?_)
          · rw [if_pos c] at hE
            refine q_iconst (pc := 42) hX (0) rfl dX1_categoryFor_42 ?_
            cases hE
            exact q_iret hX hR (by decide) (by decide) dX1_categoryFor_43
          · rw [if_neg c] at hE
            refine q_iconst (pc := 38) hX (1) rfl dX1_categoryFor_38 ?_
            refine q_goto (pc := 39) hX 43 (by decide) dX1_categoryFor_39 ?_
            cases hE
            exact q_iret hX hR (by decide) (by decide) dX1_categoryFor_43
    · rw [if_neg c] at hE
      refine q_iload_n (pc := 11) hX 0 rfl rfl dX1_categoryFor_11 ?_
      refine q_sipush (pc := 12) hX (480) (by decide) dX1_categoryFor_12 ?_
      refine q_icmp_lt (pc := 15) hX 20 (by decide) dX1_categoryFor_15 (fun c => ?_) (fun c => ?_)
      · rw [if_pos c] at hE
        refine q_iload_n (pc := 20) hX 0 rfl rfl dX1_categoryFor_20 ?_
        refine q_sipush (pc := 21) hX (480) (by decide) dX1_categoryFor_21 ?_
        refine q_icmp_ge (pc := 24) hX 38 (by decide) dX1_categoryFor_24 (fun c => ?_) (fun c => ?_)
        · rw [if_pos c] at hE
          refine q_iconst (pc := 38) hX (1) rfl dX1_categoryFor_38 ?_
          refine q_goto (pc := 39) hX 43 (by decide) dX1_categoryFor_39 ?_
          cases hE
          exact q_iret hX hR (by decide) (by decide) dX1_categoryFor_43
        · rw [if_neg c] at hE
          refine q_iload_n (pc := 27) hX 1 rfl rfl dX1_categoryFor_27 ?_
          refine q_sipush (pc := 28) hX (2400) (by decide) dX1_categoryFor_28 ?_
          refine q_icmp_ge (pc := 31) hX 38 (by decide) dX1_categoryFor_31 (fun c => ?_) (fun c => ?_)
          · rw [if_pos c] at hE
            refine q_iconst (pc := 38) hX (1) rfl dX1_categoryFor_38 ?_
            refine q_goto (pc := 39) hX 43 (by decide) dX1_categoryFor_39 ?_
            cases hE
            exact q_iret hX hR (by decide) (by decide) dX1_categoryFor_43
          · rw [if_neg c] at hE
            refine q_iload_n (pc := 34) hX 2 rfl rfl dX1_categoryFor_34 ?_
            refine q_if_eq (pc := 35) hX 42 (by decide) dX1_categoryFor_35 (fun c => ?_) (fun c => ?_)
            · rw [if_pos c] at hE
              refine q_iconst (pc := 42) hX (0) rfl dX1_categoryFor_42 ?_
              cases hE
              exact q_iret hX hR (by decide) (by decide) dX1_categoryFor_43
            · rw [if_neg c] at hE
              refine q_iconst (pc := 38) hX (1) rfl dX1_categoryFor_38 ?_
              refine q_goto (pc := 39) hX 43 (by decide) dX1_categoryFor_39 ?_
              cases hE
              exact q_iret hX hR (by decide) (by decide) dX1_categoryFor_43
      · rw [if_neg c] at hE
        refine q_iconst (pc := 18) hX (2) rfl dX1_categoryFor_18 ?_
        cases hE
        exact q_iret hX hR (by decide) (by decide) dX1_categoryFor_19

set_option maxHeartbeats 4000000 in
theorem l_X1_addParts_6 {X : Cx} (hX : CxOK X RX1 cX1_addParts 12 2 47 0 0 none) (hE0 : CxE X []) {o : Nat → Nat} {hn : Nat} {x1 : Int32} {x2 : Int32} {x3 : Int32} {x4 : Int32} {x5 : Int32} {G : Mel} : ∀ (f : Nat) (y1 : Int32) (y2 : Int32) (M3 : Mem) (p14 : Int32 × Int32 × Mem), L_X1_addParts_6 x1 x2 x3 x4 x5 f y1 y2 M3 = some p14 → WM X o hn p14.2.2 G 0 0 108 12 [(0, .ref (o 33)), (1, .int x1), (2, .int x2), (3, .int x3), (4, .int x4), (5, .int x5), (6, .int p14.1), (7, .int p14.2.1)] [] → WM X o hn M3 G 0 0 6 12 [(0, .ref (o 33)), (1, .int x1), (2, .int x2), (3, .int x3), (4, .int x4), (5, .int x5), (6, .int y1), (7, .int y2)] [] := by
  intro f
  induction f with
  | zero => intro y1 y2 M3 p14 hE; simp [L_X1_addParts_6] at hE
  | succ f ih =>
    intro y1 y2 M3 p14 hE hx
    rw [L_X1_addParts_6] at hE
    refine q_iload (pc := 6) hX 7 rfl dX1_addParts_6 ?_
    refine q_sipush (pc := 8) hX (1440) (by decide) dX1_addParts_8 ?_
    refine q_icmp_ge (pc := 11) hX 108 (by decide) dX1_addParts_11 (fun c => ?_) (fun c => ?_)
    · rw [if_pos c] at hE
      cases hE
      exact hx
    · rw [if_neg c] at hE
      refine q_iload (pc := 14) hX 6 rfl dX1_addParts_14 ?_
      refine q_iload_n (pc := 16) hX 2 rfl rfl dX1_addParts_16 ?_
      refine q_icmp_ge (pc := 17) hX 108 (by decide) dX1_addParts_17 (fun c => ?_) (fun c => ?_)
      · rw [if_pos c] at hE
        cases hE
        exact hx
      · rw [if_neg c] at hE
        refine q_iload_n (pc := 20) hX 3 rfl rfl dX1_addParts_20 ?_
        refine q_iload (pc := 21) hX 6 rfl dX1_addParts_21 ?_
        refine q_iadd (pc := 23) hX dX1_addParts_23 ?_
        refine q_iload_n (pc := 24) hX 1 rfl rfl dX1_addParts_24 ?_
        refine q_isub (pc := 25) hX dX1_addParts_25 ?_
        refine q_nm (fun z4 hz4 => ?_)
        have hE := bnd_nm hz4 hE
        refine q_istore (pc := 26) (lo' := [(0, .ref (o 33)), (1, .int x1), (2, .int x2), (3, .int x3), (4, .int x4), (5, .int x5), (6, .int y1), (7, .int y2), (8, .int z4)]) hX [1, 2, 3, 4, 5, 6, 7, 8, 0] (by decide) rfl dX1_addParts_26 ?_
        refine q_iload (pc := 28) hX 4 rfl dX1_addParts_28 ?_
        refine q_iload (pc := 30) hX 6 rfl dX1_addParts_30 ?_
        refine q_iadd (pc := 32) hX dX1_addParts_32 ?_
        refine q_iload_n (pc := 33) hX 1 rfl rfl dX1_addParts_33 ?_
        refine q_isub (pc := 34) hX dX1_addParts_34 ?_
        refine q_nm (fun z5 hz5 => ?_)
        have hE := bnd_nm hz5 hE
        refine q_istore (pc := 35) (lo' := [(0, .ref (o 33)), (1, .int x1), (2, .int x2), (3, .int x3), (4, .int x4), (5, .int x5), (6, .int y1), (7, .int y2), (8, .int z4), (9, .int z5)]) hX [1, 2, 3, 4, 5, 6, 7, 8, 9, 0] (by decide) rfl dX1_addParts_35 ?_
        refine q_iload_n (pc := 37) hX 2 rfl rfl dX1_addParts_37 ?_
        refine q_iload (pc := 38) hX 6 rfl dX1_addParts_38 ?_
        refine q_isub (pc := 40) hX dX1_addParts_40 ?_
        refine q_iload (pc := 41) hX 8 rfl dX1_addParts_41 ?_
        refine q_iload (pc := 43) hX 9 rfl dX1_addParts_43 ?_
        obtain ⟨r6, hr6, hE⟩ := ob_bind hE
        refine q_callS (pc := 45) (As := [.int z4, .int z5]) (rest := [.int (x2 - y1)]) (rv := some (.int r6)) (st' := [.int r6, .int (x2 - y1)]) hX (c_X1_untilLimit hr6) (sl_X1_79) pd_yX1_untilLimit rfl ⟨by decide, by decide⟩ ⟨Nat.le_of_ble_eq_true rfl, Nat.le_of_ble_eq_true rfl⟩ rfl (Nat.le_of_ble_eq_true rfl) rfl dX1_addParts_45 ?_
        refine r_min (pc := 48) hX kw_228 kw_191 kw_192 kw_193 (by decide) (Nat.le_of_ble_eq_true rfl) (Nat.le_of_ble_eq_true rfl) (Nat.le_of_ble_eq_true rfl) dX1_addParts_48 ?_
        refine q_nm (fun z7 hz7 => ?_)
        have hE := bnd_nm hz7 hE
        refine q_istore (pc := 51) (lo' := [(0, .ref (o 33)), (1, .int x1), (2, .int x2), (3, .int x3), (4, .int x4), (5, .int x5), (6, .int y1), (7, .int y2), (8, .int z4), (9, .int z5), (10, .int z7)]) hX [1, 2, 3, 4, 5, 6, 7, 8, 9, 10, 0] (by decide) rfl dX1_addParts_51 ?_
        refine q_aload_n (pc := 53) hX 0 rfl rfl dX1_addParts_53 ?_
        refine q_get (pc := 54) (id := 33) (ci := 1) (N := 3) (T := TX1) (C := RX1) hX 2 (lt46 (by decide)) rfl rfl in_X1 (by decide) (Or.inl kw_48) rfl dX1_addParts_54 ?_
        obtain ⟨r8, hr8, hE⟩ := ob_bind hE
        refine q_callV (pc := 57) (id := 36) (As := []) (rest := []) (rv := some (.int r8)) (st' := [.int r8]) hX (c_X4_size (tb_36 hn) hr8) (vl_X1_56) (lt46 (by decide)) (ob_T (tb_36 hn).1 _ _) rfl rfl pd_yX4_size rfl ⟨by decide, by decide⟩ ⟨Nat.le_of_ble_eq_true rfl, Nat.le_of_ble_eq_true rfl⟩ rfl (Nat.le_of_ble_eq_true rfl) rfl dX1_addParts_57 ?_
        refine q_istore (pc := 60) (lo' := [(0, .ref (o 33)), (1, .int x1), (2, .int x2), (3, .int x3), (4, .int x4), (5, .int x5), (6, .int y1), (7, .int y2), (8, .int z4), (9, .int z5), (10, .int z7), (11, .int r8)]) hX [1, 2, 3, 4, 5, 6, 7, 8, 9, 10, 11, 0] (by decide) rfl dX1_addParts_60 ?_
        refine q_aload_n (pc := 62) hX 0 rfl rfl dX1_addParts_62 ?_
        refine q_get (pc := 63) (id := 33) (ci := 1) (N := 3) (T := TX1) (C := RX1) hX 2 (lt46 (by decide)) rfl rfl in_X1 (by decide) (Or.inl kw_48) rfl dX1_addParts_63 ?_
        refine q_iload (pc := 66) hX 6 rfl dX1_addParts_66 ?_
        refine q_iload (pc := 68) hX 6 rfl dX1_addParts_68 ?_
        refine q_iload (pc := 70) hX 10 rfl dX1_addParts_70 ?_
        refine q_iadd (pc := 72) hX dX1_addParts_72 ?_
        obtain ⟨r9, hr9, hE⟩ := ob_bind hE
        refine q_callV (pc := 73) (id := 36) (As := [.int y1, .int (y1 + z7)]) (rest := []) (rv := none) (st' := []) hX (c_X4_addSpan (tb_36 hn) hr9) (vl_X1_69) (lt46 (by decide)) (ob_T (tb_36 hn).1 _ _) rfl rfl pd_yX4_addSpan rfl ⟨by decide, by decide⟩ ⟨Nat.le_of_ble_eq_true rfl, Nat.le_of_ble_eq_true rfl⟩ rfl (Nat.le_of_ble_eq_true rfl) rfl dX1_addParts_73 ?_
        refine q_aload_n (pc := 76) hX 0 rfl rfl dX1_addParts_76 ?_
        refine q_get (pc := 77) (id := 33) (ci := 1) (N := 3) (T := TX1) (C := RX1) hX 2 (lt46 (by decide)) rfl rfl in_X1 (by decide) (Or.inl kw_48) rfl dX1_addParts_77 ?_
        refine q_iload (pc := 80) hX 11 rfl dX1_addParts_80 ?_
        refine q_iconst (pc := 82) hX (2) rfl dX1_addParts_82 ?_
        refine q_iload (pc := 83) hX 8 rfl dX1_addParts_83 ?_
        refine q_iload (pc := 85) hX 9 rfl dX1_addParts_85 ?_
        refine q_iload (pc := 87) hX 5 rfl dX1_addParts_87 ?_
        obtain ⟨r10, hr10, hE⟩ := ob_bind hE
        refine q_callS (pc := 89) (As := [.int z4, .int z5, .int x5]) (rest := [.int 2, .int r8, .ref (o 36)]) (rv := some (.int r10)) (st' := [.int r10, .int 2, .int r8, .ref (o 36)]) hX (c_X1_categoryFor hr10) (sl_X1_82) pd_yX1_categoryFor rfl ⟨by decide, by decide⟩ ⟨Nat.le_of_ble_eq_true rfl, Nat.le_of_ble_eq_true rfl⟩ rfl (Nat.le_of_ble_eq_true rfl) rfl dX1_addParts_89 ?_
        obtain ⟨r11, hr11, hE⟩ := ob_bind hE
        refine q_callV (pc := 92) (id := 36) (As := [.int r8, .int 2, .int r10]) (rest := []) (rv := none) (st' := []) hX (c_X4_set (tb_36 hn) hr11) (vl_X1_86) (lt46 (by decide)) (ob_T (tb_36 hn).1 _ _) rfl rfl pd_yX4_set rfl ⟨by decide, by decide⟩ ⟨Nat.le_of_ble_eq_true rfl, Nat.le_of_ble_eq_true rfl⟩ rfl (Nat.le_of_ble_eq_true rfl) rfl dX1_addParts_92 ?_
        refine q_iload (pc := 95) hX 6 rfl dX1_addParts_95 ?_
        refine q_iload (pc := 97) hX 10 rfl dX1_addParts_97 ?_
        refine q_iadd (pc := 99) hX dX1_addParts_99 ?_
        refine q_nm (fun z12 hz12 => ?_)
        have hE := bnd_nm hz12 hE
        refine q_istore (pc := 100) (lo' := [(0, .ref (o 33)), (1, .int x1), (2, .int x2), (3, .int x3), (4, .int x4), (5, .int x5), (6, .int z12), (7, .int y2), (8, .int z4), (9, .int z5), (10, .int z7), (11, .int r8)]) hX [1, 2, 3, 4, 5, 6, 0, 7, 8, 9, 10, 11] (by decide) rfl dX1_addParts_100 ?_
        obtain ⟨z13, hz13⟩ : ∃ z : Int32, z = y2 + 1 := ⟨_, rfl⟩
        have hE := bnd_nm hz13 hE
        refine q_iinc (pc := 102) (lo' := [(0, .ref (o 33)), (1, .int x1), (2, .int x2), (3, .int x3), (4, .int x4), (5, .int x5), (6, .int z12), (7, .int z13), (8, .int z4), (9, .int z5), (10, .int z7), (11, .int r8)]) hX 7 z13 [1, 2, 3, 4, 5, 6, 7, 0, 8, 9, 10, 11] rfl (by rw [hz13]; rfl) (by decide) rfl dX1_addParts_102 ?_
        refine q_goto (pc := 105) hX 6 (by decide) dX1_addParts_105 ?_
        refine q_lo [0, 1, 2, 3, 4, 5, 6, 7] rfl ?_
        exact ih _ _ _ p14 hE hx

set_option maxHeartbeats 4000000 in
theorem c_X1_addParts {Y : Lx} {o : Nat → Nat} {hn : Nat} {M : Mem} {G : Mel} {x1 : Int32} {x2 : Int32} {x3 : Int32} {x4 : Int32} {x5 : Int32} {Mr : Mem} (hE : s_X1_addParts M x1 x2 x3 x4 x5 = some (Mr)) : MI Y yX1_addParts cX1_addParts 12 none 2 47 0 0 [.ref (o 33), .int x1, .int x2, .int x3, .int x4, .int x5] o hn M G (.inl (none)) Mr G := by
  refine MI.of (by decide +kernel) (Nat.le_of_ble_eq_true rfl) (fun X hY hX hE0 hR => ?_)
  change CxOK X RX1 cX1_addParts 12 2 47 0 0 none at hX
  show WM X o hn M G 0 0 0 12 [(0, .ref (o 33)), (1, .int x1), (2, .int x2), (3, .int x3), (4, .int x4), (5, .int x5)] []
  unfold s_X1_addParts at hE
  refine q_iload_n (pc := 0) hX 1 rfl rfl dX1_addParts_0 ?_
  refine q_istore (pc := 1) (lo' := [(0, .ref (o 33)), (1, .int x1), (2, .int x2), (3, .int x3), (4, .int x4), (5, .int x5), (6, .int x1)]) hX [1, 2, 3, 4, 5, 6, 0] (by decide) rfl dX1_addParts_1 ?_
  refine q_iconst (pc := 3) hX (0) rfl dX1_addParts_3 ?_
  refine q_istore (pc := 4) (lo' := [(0, .ref (o 33)), (1, .int x1), (2, .int x2), (3, .int x3), (4, .int x4), (5, .int x5), (6, .int x1), (7, .int 0)]) hX [1, 2, 3, 4, 5, 6, 7, 0] (by decide) rfl dX1_addParts_4 ?_
  obtain ⟨p14, hp14, hE⟩ := ob_bind hE
  refine l_X1_addParts_6 hX hE0 FU _ _ _ p14 hp14 ?_
  cases hE
  exact q_vret hX hR (by decide) (by decide) dX1_addParts_108

set_option maxHeartbeats 4000000 in
theorem l_X1_addPartsOfDay_6 {X : Cx} (hX : CxOK X RX1 cX1_addPartsOfDay 8 3 78 0 0 none) (hE0 : CxE X []) {o : Nat → Nat} {hn : Nat} {x1 : Int32} {x2 : Int32} {x3 : Int32} {G : Mel} : ∀ (f : Nat) (y1 : Int32) (y2 : Int32) (M3 : Mem) (p14 : Int32 × Int32 × Mem), L_X1_addPartsOfDay_6 x1 x2 x3 f y1 y2 M3 = some p14 → WM X o hn p14.2.2 G 0 0 98 8 [(0, .ref (o 33)), (1, .int x1), (2, .int x2), (3, .int x3), (4, .int p14.1), (5, .int p14.2.1)] [] → WM X o hn M3 G 0 0 6 8 [(0, .ref (o 33)), (1, .int x1), (2, .int x2), (3, .int x3), (4, .int y1), (5, .int y2)] [] := by
  intro f
  induction f with
  | zero => intro y1 y2 M3 p14 hE; simp [L_X1_addPartsOfDay_6] at hE
  | succ f ih =>
    intro y1 y2 M3 p14 hE hx
    rw [L_X1_addPartsOfDay_6] at hE
    refine q_iload (pc := 6) hX 5 rfl dX1_addPartsOfDay_6 ?_
    refine q_aload_n (pc := 8) hX 0 rfl rfl dX1_addPartsOfDay_8 ?_
    refine q_get (pc := 9) (id := 33) (ci := 1) (N := 3) (T := TX1) (C := RX1) hX 1 (lt46 (by decide)) rfl rfl in_X1 (by decide) (Or.inl kw_47) rfl dX1_addPartsOfDay_9 ?_
    obtain ⟨r4, hr4, hE⟩ := ob_bind hE
    refine q_callV (pc := 12) (id := 34) (As := []) (rest := [.int y2]) (rv := some (.int r4)) (st' := [.int r4, .int y2]) hX (c_X4_size (tb_34 hn) hr4) (vl_X1_56) (lt46 (by decide)) (ob_T (tb_34 hn).1 _ _) rfl rfl pd_yX4_size rfl ⟨by decide, by decide⟩ ⟨Nat.le_of_ble_eq_true rfl, Nat.le_of_ble_eq_true rfl⟩ rfl (Nat.le_of_ble_eq_true rfl) rfl dX1_addPartsOfDay_12 ?_
    refine q_icmp_ge (pc := 15) hX 98 (by decide) dX1_addPartsOfDay_15 (fun c => ?_) (fun c => ?_)
    · rw [if_pos c] at hE
      cases hE
      exact hx
    · rw [if_neg c] at hE
      refine q_aload_n (pc := 18) hX 0 rfl rfl dX1_addPartsOfDay_18 ?_
      refine q_get (pc := 19) (id := 33) (ci := 1) (N := 3) (T := TX1) (C := RX1) hX 1 (lt46 (by decide)) rfl rfl in_X1 (by decide) (Or.inl kw_47) rfl dX1_addPartsOfDay_19 ?_
      refine q_iload (pc := 22) hX 5 rfl dX1_addPartsOfDay_22 ?_
      refine q_iconst (pc := 24) hX (0) rfl dX1_addPartsOfDay_24 ?_
      obtain ⟨r5, hr5, hE⟩ := ob_bind hE
      refine q_callV (pc := 25) (id := 34) (As := [.int y2, .int 0]) (rest := []) (rv := some (.int r5)) (st' := [.int r5]) hX (c_X4_get (tb_34 hn) hr5) (vl_X1_60) (lt46 (by decide)) (ob_T (tb_34 hn).1 _ _) rfl rfl pd_yX4_get rfl ⟨by decide, by decide⟩ ⟨Nat.le_of_ble_eq_true rfl, Nat.le_of_ble_eq_true rfl⟩ rfl (Nat.le_of_ble_eq_true rfl) rfl dX1_addPartsOfDay_25 ?_
      refine q_iload_n (pc := 28) hX 1 rfl rfl dX1_addPartsOfDay_28 ?_
      refine q_sipush (pc := 29) hX (1440) (by decide) dX1_addPartsOfDay_29 ?_
      refine q_imul (pc := 32) hX dX1_addPartsOfDay_32 ?_
      refine r_max (pc := 33) hX kw_246 kw_200 kw_192 kw_201 (by decide) (Nat.le_of_ble_eq_true rfl) (Nat.le_of_ble_eq_true rfl) (Nat.le_of_ble_eq_true rfl) dX1_addPartsOfDay_33 ?_
      refine q_nm (fun z6 hz6 => ?_)
      have hE := bnd_nm hz6 hE
      refine q_istore (pc := 36) (lo' := [(0, .ref (o 33)), (1, .int x1), (2, .int x2), (3, .int x3), (4, .int y1), (5, .int y2), (6, .int z6)]) hX [1, 2, 3, 4, 5, 6, 0] (by decide) rfl dX1_addPartsOfDay_36 ?_
      refine q_aload_n (pc := 38) hX 0 rfl rfl dX1_addPartsOfDay_38 ?_
      refine q_get (pc := 39) (id := 33) (ci := 1) (N := 3) (T := TX1) (C := RX1) hX 1 (lt46 (by decide)) rfl rfl in_X1 (by decide) (Or.inl kw_47) rfl dX1_addPartsOfDay_39 ?_
      refine q_iload (pc := 42) hX 5 rfl dX1_addPartsOfDay_42 ?_
      refine q_iconst (pc := 44) hX (1) rfl dX1_addPartsOfDay_44 ?_
      obtain ⟨r7, hr7, hE⟩ := ob_bind hE
      refine q_callV (pc := 45) (id := 34) (As := [.int y2, .int 1]) (rest := []) (rv := some (.int r7)) (st' := [.int r7]) hX (c_X4_get (tb_34 hn) hr7) (vl_X1_60) (lt46 (by decide)) (ob_T (tb_34 hn).1 _ _) rfl rfl pd_yX4_get rfl ⟨by decide, by decide⟩ ⟨Nat.le_of_ble_eq_true rfl, Nat.le_of_ble_eq_true rfl⟩ rfl (Nat.le_of_ble_eq_true rfl) rfl dX1_addPartsOfDay_45 ?_
      refine q_iload_n (pc := 48) hX 1 rfl rfl dX1_addPartsOfDay_48 ?_
      refine q_iconst (pc := 49) hX (1) rfl dX1_addPartsOfDay_49 ?_
      refine q_iadd (pc := 50) hX dX1_addPartsOfDay_50 ?_
      refine q_sipush (pc := 51) hX (1440) (by decide) dX1_addPartsOfDay_51 ?_
      refine q_imul (pc := 54) hX dX1_addPartsOfDay_54 ?_
      refine r_min (pc := 55) hX kw_228 kw_191 kw_192 kw_193 (by decide) (Nat.le_of_ble_eq_true rfl) (Nat.le_of_ble_eq_true rfl) (Nat.le_of_ble_eq_true rfl) dX1_addPartsOfDay_55 ?_
      refine q_nm (fun z8 hz8 => ?_)
      have hE := bnd_nm hz8 hE
      refine q_istore (pc := 58) (lo' := [(0, .ref (o 33)), (1, .int x1), (2, .int x2), (3, .int x3), (4, .int y1), (5, .int y2), (6, .int z6), (7, .int z8)]) hX [1, 2, 3, 4, 5, 6, 7, 0] (by decide) rfl dX1_addPartsOfDay_58 ?_
      refine q_iload (pc := 60) hX 6 rfl dX1_addPartsOfDay_60 ?_
      refine q_iload (pc := 62) hX 7 rfl dX1_addPartsOfDay_62 ?_
      obtain ⟨p12, hp12, hE⟩ := ob_bind hE
      suffices Jp12 : WM X o hn p12.2 G 0 0 92 8 [(0, .ref (o 33)), (1, .int x1), (2, .int x2), (3, .int x3), (4, .int p12.1), (5, .int y2)] [] by
        refine q_icmp_ge (pc := 64) hX 92 (by decide) dX1_addPartsOfDay_64 (fun c => ?_) (fun c => ?_)
        · rw [if_pos c] at hp12
          refine q_lo [0, 1, 2, 3, 4, 5] rfl ?_
          cases hp12
          exact Jp12
        · rw [if_neg c] at hp12
          refine q_aload_n (pc := 67) hX 0 rfl rfl dX1_addPartsOfDay_67 ?_
          refine q_iload (pc := 68) hX 6 rfl dX1_addPartsOfDay_68 ?_
          refine q_iload (pc := 70) hX 7 rfl dX1_addPartsOfDay_70 ?_
          refine q_iload (pc := 72) hX 4 rfl dX1_addPartsOfDay_72 ?_
          refine q_iload_n (pc := 74) hX 2 rfl rfl dX1_addPartsOfDay_74 ?_
          refine q_iload (pc := 75) hX 4 rfl dX1_addPartsOfDay_75 ?_
          refine q_iadd (pc := 77) hX dX1_addPartsOfDay_77 ?_
          refine q_iload_n (pc := 78) hX 3 rfl rfl dX1_addPartsOfDay_78 ?_
          obtain ⟨r10, hr10, hp12⟩ := ob_bind hp12
          refine q_callV (pc := 79) (id := 33) (As := [.int z6, .int z8, .int y1, .int (x2 + y1), .int x3]) (rest := []) (rv := none) (st' := []) hX (c_X1_addParts hr10) (vl_X1_75) (lt46 (by decide)) rfl rfl rfl pd_yX1_addParts rfl ⟨by decide, by decide⟩ ⟨Nat.le_of_ble_eq_true rfl, Nat.le_of_ble_eq_true rfl⟩ rfl (Nat.le_of_ble_eq_true rfl) rfl dX1_addPartsOfDay_79 ?_
          refine q_iload (pc := 82) hX 4 rfl dX1_addPartsOfDay_82 ?_
          refine q_iload (pc := 84) hX 7 rfl dX1_addPartsOfDay_84 ?_
          refine q_iload (pc := 86) hX 6 rfl dX1_addPartsOfDay_86 ?_
          refine q_isub (pc := 88) hX dX1_addPartsOfDay_88 ?_
          refine q_iadd (pc := 89) hX dX1_addPartsOfDay_89 ?_
          refine q_nm (fun z11 hz11 => ?_)
          have hp12 := bnd_nm hz11 hp12
          refine q_istore (pc := 90) (lo' := [(0, .ref (o 33)), (1, .int x1), (2, .int x2), (3, .int x3), (4, .int z11), (5, .int y2), (6, .int z6), (7, .int z8)]) hX [1, 2, 3, 4, 0, 5, 6, 7] (by decide) rfl dX1_addPartsOfDay_90 ?_
          refine q_lo [0, 1, 2, 3, 4, 5] rfl ?_
          cases hp12
          exact Jp12
      obtain ⟨z13, hz13⟩ : ∃ z : Int32, z = y2 + 1 := ⟨_, rfl⟩
      have hE := bnd_nm hz13 hE
      refine q_iinc (pc := 92) (lo' := [(0, .ref (o 33)), (1, .int x1), (2, .int x2), (3, .int x3), (4, .int p12.1), (5, .int z13)]) hX 5 z13 [1, 2, 3, 4, 5, 0] rfl (by rw [hz13]; rfl) (by decide) rfl dX1_addPartsOfDay_92 ?_
      refine q_goto (pc := 95) hX 6 (by decide) dX1_addPartsOfDay_95 ?_
      exact ih _ _ _ p14 hE hx

set_option maxHeartbeats 4000000 in
theorem c_X1_addPartsOfDay {Y : Lx} {o : Nat → Nat} {hn : Nat} {M : Mem} {G : Mel} {x1 : Int32} {x2 : Int32} {x3 : Int32} {Mr : Mem} (hE : s_X1_addPartsOfDay M x1 x2 x3 = some (Mr)) : MI Y yX1_addPartsOfDay cX1_addPartsOfDay 8 none 3 78 0 0 [.ref (o 33), .int x1, .int x2, .int x3] o hn M G (.inl (none)) Mr G := by
  refine MI.of (by decide +kernel) (Nat.le_of_ble_eq_true rfl) (fun X hY hX hE0 hR => ?_)
  change CxOK X RX1 cX1_addPartsOfDay 8 3 78 0 0 none at hX
  show WM X o hn M G 0 0 0 8 [(0, .ref (o 33)), (1, .int x1), (2, .int x2), (3, .int x3)] []
  unfold s_X1_addPartsOfDay at hE
  refine q_iconst (pc := 0) hX (0) rfl dX1_addPartsOfDay_0 ?_
  refine q_istore (pc := 1) (lo' := [(0, .ref (o 33)), (1, .int x1), (2, .int x2), (3, .int x3), (4, .int 0)]) hX [1, 2, 3, 4, 0] (by decide) rfl dX1_addPartsOfDay_1 ?_
  refine q_iconst (pc := 3) hX (0) rfl dX1_addPartsOfDay_3 ?_
  refine q_istore (pc := 4) (lo' := [(0, .ref (o 33)), (1, .int x1), (2, .int x2), (3, .int x3), (4, .int 0), (5, .int 0)]) hX [1, 2, 3, 4, 5, 0] (by decide) rfl dX1_addPartsOfDay_4 ?_
  obtain ⟨p14, hp14, hE⟩ := ob_bind hE
  refine l_X1_addPartsOfDay_6 hX hE0 FU _ _ _ p14 hp14 ?_
  cases hE
  exact q_vret hX hR (by decide) (by decide) dX1_addPartsOfDay_98

set_option maxHeartbeats 4000000 in
theorem l_X1_read_36 {X : Cx} (hX : CxOK X RX1 cX1_read 5 5 116 0 0 none) (hE0 : CxE X []) {o : Nat → Nat} {hn : Nat} {G : Mel} {r4 : Int32} : ∀ (f : Nat) (y5 : Int32) (y6 : Int32) (M7 : Mem) (p14 : Int32 × Int32 × Mem), L_X1_read_36 r4 f y5 y6 M7 = some p14 → WM X o hn p14.2.2 G 0 0 84 5 [(0, .ref (o 33)), (2, .int r4), (3, .int p14.1), (4, .int p14.2.1)] [] → WM X o hn M7 G 0 0 36 5 [(0, .ref (o 33)), (2, .int r4), (3, .int y5), (4, .int y6)] [] := by
  intro f
  induction f with
  | zero => intro y5 y6 M7 p14 hE; simp [L_X1_read_36] at hE
  | succ f ih =>
    intro y5 y6 M7 p14 hE hx
    rw [L_X1_read_36] at hE
    refine q_iload (pc := 36) hX 3 rfl dX1_read_36 ?_
    refine q_bipush (pc := 38) hX (7) (by decide) dX1_read_38 ?_
    refine q_icmp_ge (pc := 40) hX 84 (by decide) dX1_read_40 (fun c => ?_) (fun c => ?_)
    · rw [if_pos c] at hE
      cases hE
      exact hx
    · rw [if_neg c] at hE
      refine q_aload_n (pc := 43) hX 0 rfl rfl dX1_read_43 ?_
      refine q_iload (pc := 44) hX 3 rfl dX1_read_44 ?_
      refine q_iload_n (pc := 46) hX 2 rfl rfl dX1_read_46 ?_
      refine q_iload_n (pc := 47) hX 1 rfl rfl dX1_read_47 ?_
      obtain ⟨p9, hp9, hE⟩ := bnd_ob hE
      suffices Jp9 : WM X o hn M7 G 0 0 63 5 [(0, .ref (o 33)), (2, .int r4), (3, .int y5), (4, .int y6)] [.int p9, .int y5, .int y6, .ref (o 33)] by
        refine q_if_eq (pc := 48) hX 62 (by decide) dX1_read_48 (fun c => ?_) (fun c => ?_)
        · rw [if_pos c] at hp9
          refine q_iconst (pc := 62) hX (0) rfl dX1_read_62 ?_
          cases hp9
          exact Jp9
        · rw [if_neg c] at hp9
          refine q_iload (pc := 51) hX 3 rfl dX1_read_51 ?_
          refine q_bipush (pc := 53) hX (6) (by decide) dX1_read_53 ?_
          refine q_icmp_ne (pc := 55) hX 62 (by decide) dX1_read_55 (fun c => ?_) (fun c => ?_)
          · rw [if_neg c] at hp9
            refine q_iconst (pc := 62) hX (0) rfl dX1_read_62 ?_
            cases hp9
            exact Jp9
          · rw [if_pos c] at hp9
            refine q_iconst (pc := 58) hX (1) rfl dX1_read_58 ?_
            refine q_goto (pc := 59) hX 63 (by decide) dX1_read_59 ?_
            cases hp9
            exact Jp9
      obtain ⟨r10, hr10, hE⟩ := ob_bind hE
      refine q_callV (pc := 63) (id := 33) (As := [.int y6, .int y5, .int p9]) (rest := []) (rv := none) (st' := []) hX (c_X1_addPartsOfDay hr10) (vl_X1_48) (lt46 (by decide)) rfl rfl rfl pd_yX1_addPartsOfDay rfl ⟨by decide, by decide⟩ ⟨Nat.le_of_ble_eq_true rfl, Nat.le_of_ble_eq_true rfl⟩ rfl (Nat.le_of_ble_eq_true rfl) rfl dX1_read_63 ?_
      refine q_iload_n (pc := 66) hX 2 rfl rfl dX1_read_66 ?_
      refine q_aload_n (pc := 67) hX 0 rfl rfl dX1_read_67 ?_
      refine q_get (pc := 68) (id := 33) (ci := 1) (N := 3) (T := TX1) (C := RX1) hX 1 (lt46 (by decide)) rfl rfl in_X1 (by decide) (Or.inl kw_47) rfl dX1_read_68 ?_
      refine q_iload (pc := 71) hX 3 rfl dX1_read_71 ?_
      obtain ⟨r11, hr11, hE⟩ := ob_bind hE
      refine q_callSN (pc := 73) (As := [.ref (o 34), .int y6]) (rest := [.int y5]) (rv := some (.int r11)) (st' := [.int r11, .int y5]) hX (c_X6_minutesOnDay (tb_34 hn) hr11) mn_X1_52 kw_237 kw_2 kw_238 (by decide) pd_yX6_minutesOnDay rfl ⟨by decide, by decide⟩ ⟨Nat.le_of_ble_eq_true rfl, Nat.le_of_ble_eq_true rfl⟩ rfl (Nat.le_of_ble_eq_true rfl) rfl dX1_read_73 ?_
      refine q_iadd (pc := 76) hX dX1_read_76 ?_
      refine q_nm (fun z12 hz12 => ?_)
      have hE := bnd_nm hz12 hE
      refine q_istore_n (pc := 77) (lo' := [(0, .ref (o 33)), (2, .int r4), (3, .int z12), (4, .int y6)]) hX [1, 2, 0, 3] rfl (by decide) rfl dX1_read_77 ?_
      obtain ⟨z13, hz13⟩ : ∃ z : Int32, z = y6 + 1 := ⟨_, rfl⟩
      have hE := bnd_nm hz13 hE
      refine q_iinc (pc := 78) (lo' := [(0, .ref (o 33)), (2, .int r4), (3, .int z12), (4, .int z13)]) hX 3 z13 [1, 2, 3, 0] rfl (by rw [hz13]; rfl) (by decide) rfl dX1_read_78 ?_
      refine q_goto (pc := 81) hX 36 (by decide) dX1_read_81 ?_
      exact ih _ _ _ p14 hE hx

set_option maxHeartbeats 4000000 in
theorem c_X1_read {Y : Lx} {o : Nat → Nat} {hn : Nat} {M : Mem} {G : Mel} {e1 : Nat} {Mr : Mem} (he1 : em hn e1) (hE : s_X1_read M e1 = some (Mr)) : MI Y yX1_read cX1_read 5 none 5 116 0 0 [.ref (o 33), .ref (o e1)] o hn M G (.inl (none)) Mr G := by
  refine MI.of (by decide +kernel) (Nat.le_of_ble_eq_true rfl) (fun X hY hX hE0 hR => ?_)
  change CxOK X RX1 cX1_read 5 5 116 0 0 none at hX
  show WM X o hn M G 0 0 0 5 [(0, .ref (o 33)), (1, .ref (o e1))] []
  unfold s_X1_read at hE
  refine q_aload_n (pc := 0) hX 0 rfl rfl dX1_read_0 ?_
  refine q_get (pc := 1) (id := 33) (ci := 1) (N := 3) (T := TX1) (C := RX1) hX 0 (lt46 (by decide)) rfl rfl in_X1 (by decide) (Or.inl kw_45) rfl dX1_read_1 ?_
  refine q_aload_n (pc := 4) hX 1 rfl rfl dX1_read_4 ?_
  obtain ⟨r1, hr1, hE⟩ := ob_bind hE
  refine q_callV (pc := 5) (id := 38) (As := [.ref (o e1)]) (rest := []) (rv := none) (st' := []) hX (c_X5_read he1 hr1) (vl_X1_30) (lt46 (by decide)) rfl rfl rfl pd_yX5_read rfl ⟨by decide, by decide⟩ ⟨Nat.le_of_ble_eq_true rfl, Nat.le_of_ble_eq_true rfl⟩ rfl (Nat.le_of_ble_eq_true rfl) rfl dX1_read_5 ?_
  refine q_aload_n (pc := 8) hX 0 rfl rfl dX1_read_8 ?_
  refine q_aload_n (pc := 9) hX 0 rfl rfl dX1_read_9 ?_
  refine q_get (pc := 10) (id := 33) (ci := 1) (N := 3) (T := TX1) (C := RX1) hX 0 (lt46 (by decide)) rfl rfl in_X1 (by decide) (Or.inl kw_45) rfl dX1_read_10 ?_
  refine q_get (pc := 13) (id := 38) (ci := 5) (N := 4) (T := TX5) (C := RX5) hX 2 (lt46 (by decide)) rfl rfl in_X5 (by decide) (Or.inr ⟨_, fn_X1_34⟩) rfl dX1_read_13 ?_
  obtain ⟨r2, hr2, hE⟩ := ob_bind hE
  refine q_callV (pc := 16) (id := 33) (As := [.ref (o 41)]) (rest := []) (rv := none) (st' := []) hX (c_X1_takeOffAutomaticBreaks (tb_41 hn) hr2) (vl_X1_37) (lt46 (by decide)) rfl rfl rfl pd_yX1_takeOffAutomaticBreaks rfl ⟨by decide, by decide⟩ ⟨Nat.le_of_ble_eq_true rfl, Nat.le_of_ble_eq_true rfl⟩ rfl (Nat.le_of_ble_eq_true rfl) rfl dX1_read_16 ?_
  refine q_aload_n (pc := 19) hX 0 rfl rfl dX1_read_19 ?_
  refine q_get (pc := 20) (id := 33) (ci := 1) (N := 3) (T := TX1) (C := RX1) hX 2 (lt46 (by decide)) rfl rfl in_X1 (by decide) (Or.inl kw_48) rfl dX1_read_20 ?_
  obtain ⟨r3, hr3, hE⟩ := ob_bind hE
  refine q_callV (pc := 23) (id := 36) (As := []) (rest := []) (rv := none) (st' := []) hX (c_X4_clear (tb_36 hn) hr3) (vl_X1_41) (lt46 (by decide)) (ob_T (tb_36 hn).1 _ _) rfl rfl pd_yX4_clear rfl ⟨by decide, by decide⟩ ⟨Nat.le_of_ble_eq_true rfl, Nat.le_of_ble_eq_true rfl⟩ rfl (Nat.le_of_ble_eq_true rfl) rfl dX1_read_23 ?_
  refine q_aload_n (pc := 26) hX 0 rfl rfl dX1_read_26 ?_
  obtain ⟨r4, hr4, hE⟩ := ob_bind hE
  refine q_callV (pc := 27) (id := 33) (As := []) (rest := []) (rv := some (.int r4)) (st' := [.int r4]) hX (c_X1_isFull hr4) (vl_X1_44) (lt46 (by decide)) rfl rfl rfl pd_yX1_isFull rfl ⟨by decide, by decide⟩ ⟨Nat.le_of_ble_eq_true rfl, Nat.le_of_ble_eq_true rfl⟩ rfl (Nat.le_of_ble_eq_true rfl) rfl dX1_read_27 ?_
  refine q_istore_n (pc := 30) (lo' := [(0, .ref (o 33)), (1, .ref (o e1)), (2, .int r4)]) hX [1, 2, 0] rfl (by decide) rfl dX1_read_30 ?_
  refine q_iconst (pc := 31) hX (0) rfl dX1_read_31 ?_
  refine q_istore_n (pc := 32) (lo' := [(0, .ref (o 33)), (1, .ref (o e1)), (2, .int r4), (3, .int 0)]) hX [1, 2, 3, 0] rfl (by decide) rfl dX1_read_32 ?_
  refine q_iconst (pc := 33) hX (0) rfl dX1_read_33 ?_
  refine q_istore (pc := 34) (lo' := [(0, .ref (o 33)), (1, .ref (o e1)), (2, .int r4), (3, .int 0), (4, .int 0)]) hX [1, 2, 3, 4, 0] (by decide) rfl dX1_read_34 ?_
  obtain ⟨p14, hp14, hE⟩ := ob_bind hE
  refine q_lo [0, 2, 3, 4] rfl ?_
  refine l_X1_read_36 hX hE0 FU _ _ _ p14 hp14 ?_
  cases hE
  exact q_vret hX hR (by decide) (by decide) dX1_read_84

set_option maxHeartbeats 4000000 in
theorem l_X1_minutesOf_5 {X : Cx} (hX : CxOK X RX1 cX1_minutesOf 5 1 23 0 0 (some .int)) (hE0 : CxE X []) {o : Nat → Nat} {hn : Nat} {M : Mem} {x1 : Int32} {x2 : Int32} {G : Mel} : ∀ (f : Nat) (y1 : Int32) (y2 : Int32) (p12 : Int32 × Int32), L_X1_minutesOf_5 M x1 x2 f y1 y2 = some p12 → WM X o hn M G 0 0 79 5 [(0, .ref (o 33)), (1, .int x1), (2, .int x2), (3, .int p12.1), (4, .int p12.2)] [] → WM X o hn M G 0 0 5 5 [(0, .ref (o 33)), (1, .int x1), (2, .int x2), (3, .int y1), (4, .int y2)] [] := by
  intro f
  induction f with
  | zero => intro y1 y2 p12 hE; simp [L_X1_minutesOf_5] at hE
  | succ f ih =>
    intro y1 y2 p12 hE hx
    rw [L_X1_minutesOf_5] at hE
    refine q_iload (pc := 5) hX 4 rfl dX1_minutesOf_5 ?_
    refine q_aload_n (pc := 7) hX 0 rfl rfl dX1_minutesOf_7 ?_
    refine q_get (pc := 8) (id := 33) (ci := 1) (N := 3) (T := TX1) (C := RX1) hX 2 (lt46 (by decide)) rfl rfl in_X1 (by decide) (Or.inl kw_48) rfl dX1_minutesOf_8 ?_
    obtain ⟨r3, hr3, hE⟩ := ob_bind hE
    refine q_callV (pc := 11) (id := 36) (As := []) (rest := [.int y2]) (rv := some (.int r3)) (st' := [.int r3, .int y2]) hX (c_X4_size (tb_36 hn) hr3) (vl_X1_56) (lt46 (by decide)) (ob_T (tb_36 hn).1 _ _) rfl rfl pd_yX4_size rfl ⟨by decide, by decide⟩ ⟨Nat.le_of_ble_eq_true rfl, Nat.le_of_ble_eq_true rfl⟩ rfl (Nat.le_of_ble_eq_true rfl) rfl dX1_minutesOf_11 ?_
    refine q_icmp_ge (pc := 14) hX 79 (by decide) dX1_minutesOf_14 (fun c => ?_) (fun c => ?_)
    · rw [if_pos c] at hE
      cases hE
      exact hx
    · rw [if_neg c] at hE
      refine q_aload_n (pc := 17) hX 0 rfl rfl dX1_minutesOf_17 ?_
      refine q_get (pc := 18) (id := 33) (ci := 1) (N := 3) (T := TX1) (C := RX1) hX 2 (lt46 (by decide)) rfl rfl in_X1 (by decide) (Or.inl kw_48) rfl dX1_minutesOf_18 ?_
      refine q_iload (pc := 21) hX 4 rfl dX1_minutesOf_21 ?_
      refine q_iconst (pc := 23) hX (2) rfl dX1_minutesOf_23 ?_
      obtain ⟨r4, hr4, hE⟩ := ob_bind hE
      refine q_callV (pc := 24) (id := 36) (As := [.int y2, .int 2]) (rest := []) (rv := some (.int r4)) (st' := [.int r4]) hX (c_X4_get (tb_36 hn) hr4) (vl_X1_60) (lt46 (by decide)) (ob_T (tb_36 hn).1 _ _) rfl rfl pd_yX4_get rfl ⟨by decide, by decide⟩ ⟨Nat.le_of_ble_eq_true rfl, Nat.le_of_ble_eq_true rfl⟩ rfl (Nat.le_of_ble_eq_true rfl) rfl dX1_minutesOf_24 ?_
      refine q_iload_n (pc := 27) hX 2 rfl rfl dX1_minutesOf_27 ?_
      obtain ⟨p10, hp10, hE⟩ := ob_bind hE
      suffices Jp10 : WM X o hn M G 0 0 73 5 [(0, .ref (o 33)), (1, .int x1), (2, .int x2), (3, .int p10), (4, .int y2)] [] by
        refine q_icmp_ne (pc := 28) hX 73 (by decide) dX1_minutesOf_28 (fun c => ?_) (fun c => ?_)
        · rw [if_neg c] at hp10
          cases hp10
          exact Jp10
        · rw [if_pos c] at hp10
          refine q_aload_n (pc := 31) hX 0 rfl rfl dX1_minutesOf_31 ?_
          refine q_get (pc := 32) (id := 33) (ci := 1) (N := 3) (T := TX1) (C := RX1) hX 2 (lt46 (by decide)) rfl rfl in_X1 (by decide) (Or.inl kw_48) rfl dX1_minutesOf_32 ?_
          refine q_iload (pc := 35) hX 4 rfl dX1_minutesOf_35 ?_
          refine q_iconst (pc := 37) hX (0) rfl dX1_minutesOf_37 ?_
          obtain ⟨r6, hr6, hp10⟩ := ob_bind hp10
          refine q_callV (pc := 38) (id := 36) (As := [.int y2, .int 0]) (rest := []) (rv := some (.int r6)) (st' := [.int r6]) hX (c_X4_get (tb_36 hn) hr6) (vl_X1_60) (lt46 (by decide)) (ob_T (tb_36 hn).1 _ _) rfl rfl pd_yX4_get rfl ⟨by decide, by decide⟩ ⟨Nat.le_of_ble_eq_true rfl, Nat.le_of_ble_eq_true rfl⟩ rfl (Nat.le_of_ble_eq_true rfl) rfl dX1_minutesOf_38 ?_
          refine q_sipush (pc := 41) hX (1440) (by decide) dX1_minutesOf_41 ?_
          refine q_idiv (pc := 44) hX (by decide) dX1_minutesOf_44 ?_
          refine q_iload_n (pc := 45) hX 1 rfl rfl dX1_minutesOf_45 ?_
          refine q_icmp_ne (pc := 46) hX 73 (by decide) dX1_minutesOf_46 (fun c => ?_) (fun c => ?_)
          · rw [if_neg c] at hp10
            cases hp10
            exact Jp10
          · rw [if_pos c] at hp10
            refine q_iload_n (pc := 49) hX 3 rfl rfl dX1_minutesOf_49 ?_
            refine q_aload_n (pc := 50) hX 0 rfl rfl dX1_minutesOf_50 ?_
            refine q_get (pc := 51) (id := 33) (ci := 1) (N := 3) (T := TX1) (C := RX1) hX 2 (lt46 (by decide)) rfl rfl in_X1 (by decide) (Or.inl kw_48) rfl dX1_minutesOf_51 ?_
            refine q_iload (pc := 54) hX 4 rfl dX1_minutesOf_54 ?_
            refine q_iconst (pc := 56) hX (1) rfl dX1_minutesOf_56 ?_
            obtain ⟨r7, hr7, hp10⟩ := ob_bind hp10
            refine q_callV (pc := 57) (id := 36) (As := [.int y2, .int 1]) (rest := [.int y1]) (rv := some (.int r7)) (st' := [.int r7, .int y1]) hX (c_X4_get (tb_36 hn) hr7) (vl_X1_60) (lt46 (by decide)) (ob_T (tb_36 hn).1 _ _) rfl rfl pd_yX4_get rfl ⟨by decide, by decide⟩ ⟨Nat.le_of_ble_eq_true rfl, Nat.le_of_ble_eq_true rfl⟩ rfl (Nat.le_of_ble_eq_true rfl) rfl dX1_minutesOf_57 ?_
            refine q_aload_n (pc := 60) hX 0 rfl rfl dX1_minutesOf_60 ?_
            refine q_get (pc := 61) (id := 33) (ci := 1) (N := 3) (T := TX1) (C := RX1) hX 2 (lt46 (by decide)) rfl rfl in_X1 (by decide) (Or.inl kw_48) rfl dX1_minutesOf_61 ?_
            refine q_iload (pc := 64) hX 4 rfl dX1_minutesOf_64 ?_
            refine q_iconst (pc := 66) hX (0) rfl dX1_minutesOf_66 ?_
            obtain ⟨r8, hr8, hp10⟩ := ob_bind hp10
            refine q_callV (pc := 67) (id := 36) (As := [.int y2, .int 0]) (rest := [.int r7, .int y1]) (rv := some (.int r8)) (st' := [.int r8, .int r7, .int y1]) hX (c_X4_get (tb_36 hn) hr8) (vl_X1_60) (lt46 (by decide)) (ob_T (tb_36 hn).1 _ _) rfl rfl pd_yX4_get rfl ⟨by decide, by decide⟩ ⟨Nat.le_of_ble_eq_true rfl, Nat.le_of_ble_eq_true rfl⟩ rfl (Nat.le_of_ble_eq_true rfl) rfl dX1_minutesOf_67 ?_
            refine q_isub (pc := 70) hX dX1_minutesOf_70 ?_
            refine q_iadd (pc := 71) hX dX1_minutesOf_71 ?_
            refine q_nm (fun z9 hz9 => ?_)
            have hp10 := bnd_nm hz9 hp10
            refine q_istore_n (pc := 72) (lo' := [(0, .ref (o 33)), (1, .int x1), (2, .int x2), (3, .int z9), (4, .int y2)]) hX [1, 2, 3, 0, 4] rfl (by decide) rfl dX1_minutesOf_72 ?_
            cases hp10
            exact Jp10
      obtain ⟨z11, hz11⟩ : ∃ z : Int32, z = y2 + 1 := ⟨_, rfl⟩
      have hE := bnd_nm hz11 hE
      refine q_iinc (pc := 73) (lo' := [(0, .ref (o 33)), (1, .int x1), (2, .int x2), (3, .int p10), (4, .int z11)]) hX 4 z11 [1, 2, 3, 4, 0] rfl (by rw [hz11]; rfl) (by decide) rfl dX1_minutesOf_73 ?_
      refine q_goto (pc := 76) hX 5 (by decide) dX1_minutesOf_76 ?_
      exact ih _ _ p12 hE hx

set_option maxHeartbeats 4000000 in
theorem c_X1_minutesOf {Y : Lx} {o : Nat → Nat} {hn : Nat} {M : Mem} {G : Mel} {x1 : Int32} {x2 : Int32} {rr : Int32} (hE : s_X1_minutesOf M x1 x2 = some (rr)) : MI Y yX1_minutesOf cX1_minutesOf 5 (some .int) 1 23 0 0 [.ref (o 33), .int x1, .int x2] o hn M G (.inl (some (.int rr))) M G := by
  refine MI.of (by decide +kernel) (Nat.le_of_ble_eq_true rfl) (fun X hY hX hE0 hR => ?_)
  change CxOK X RX1 cX1_minutesOf 5 1 23 0 0 (some .int) at hX
  show WM X o hn M G 0 0 0 5 [(0, .ref (o 33)), (1, .int x1), (2, .int x2)] []
  unfold s_X1_minutesOf at hE
  refine q_iconst (pc := 0) hX (0) rfl dX1_minutesOf_0 ?_
  refine q_istore_n (pc := 1) (lo' := [(0, .ref (o 33)), (1, .int x1), (2, .int x2), (3, .int 0)]) hX [1, 2, 3, 0] rfl (by decide) rfl dX1_minutesOf_1 ?_
  refine q_iconst (pc := 2) hX (0) rfl dX1_minutesOf_2 ?_
  refine q_istore (pc := 3) (lo' := [(0, .ref (o 33)), (1, .int x1), (2, .int x2), (3, .int 0), (4, .int 0)]) hX [1, 2, 3, 4, 0] (by decide) rfl dX1_minutesOf_3 ?_
  obtain ⟨p12, hp12, hE⟩ := ob_bind hE
  refine l_X1_minutesOf_5 hX hE0 FU _ _ p12 hp12 ?_
  refine q_iload_n (pc := 79) hX 3 rfl rfl dX1_minutesOf_79 ?_
  cases hE
  exact q_iret hX hR (by decide) (by decide) dX1_minutesOf_80

set_option maxHeartbeats 4000000 in
theorem l_X1_quartersOfWeek_4 {X : Cx} (hX : CxOK X RX1 cX1_quartersOfWeek 4 2 47 0 0 (some .int)) (hE0 : CxE X []) {o : Nat → Nat} {hn : Nat} {M : Mem} {x1 : Int32} {G : Mel} : ∀ (f : Nat) (y1 : Int32) (y2 : Int32) (p6 : Int32 × Int32), L_X1_quartersOfWeek_4 M x1 f y1 y2 = some p6 → WM X o hn M G 0 0 25 4 [(0, .ref (o 33)), (1, .int x1), (2, .int p6.1), (3, .int p6.2)] [] → WM X o hn M G 0 0 4 4 [(0, .ref (o 33)), (1, .int x1), (2, .int y1), (3, .int y2)] [] := by
  intro f
  induction f with
  | zero => intro y1 y2 p6 hE; simp [L_X1_quartersOfWeek_4] at hE
  | succ f ih =>
    intro y1 y2 p6 hE hx
    rw [L_X1_quartersOfWeek_4] at hE
    refine q_iload_n (pc := 4) hX 3 rfl rfl dX1_quartersOfWeek_4 ?_
    refine q_bipush (pc := 5) hX (7) (by decide) dX1_quartersOfWeek_5 ?_
    refine q_icmp_ge (pc := 7) hX 25 (by decide) dX1_quartersOfWeek_7 (fun c => ?_) (fun c => ?_)
    · rw [if_pos c] at hE
      cases hE
      exact hx
    · rw [if_neg c] at hE
      refine q_iload_n (pc := 10) hX 2 rfl rfl dX1_quartersOfWeek_10 ?_
      refine q_aload_n (pc := 11) hX 0 rfl rfl dX1_quartersOfWeek_11 ?_
      refine q_iload_n (pc := 12) hX 3 rfl rfl dX1_quartersOfWeek_12 ?_
      refine q_iload_n (pc := 13) hX 1 rfl rfl dX1_quartersOfWeek_13 ?_
      obtain ⟨r3, hr3, hE⟩ := ob_bind hE
      refine q_callV (pc := 14) (id := 33) (As := [.int y2, .int x1]) (rest := [.int y1]) (rv := some (.int r3)) (st' := [.int r3, .int y1]) hX (c_X1_minutesOf hr3) (vl_X1_90) (lt46 (by decide)) rfl rfl rfl pd_yX1_minutesOf rfl ⟨by decide, by decide⟩ ⟨Nat.le_of_ble_eq_true rfl, Nat.le_of_ble_eq_true rfl⟩ rfl (Nat.le_of_ble_eq_true rfl) rfl dX1_quartersOfWeek_14 ?_
      refine q_iadd (pc := 17) hX dX1_quartersOfWeek_17 ?_
      refine q_nm (fun z4 hz4 => ?_)
      have hE := bnd_nm hz4 hE
      refine q_istore_n (pc := 18) (lo' := [(0, .ref (o 33)), (1, .int x1), (2, .int z4), (3, .int y2)]) hX [1, 2, 0, 3] rfl (by decide) rfl dX1_quartersOfWeek_18 ?_
      obtain ⟨z5, hz5⟩ : ∃ z : Int32, z = y2 + 1 := ⟨_, rfl⟩
      have hE := bnd_nm hz5 hE
      refine q_iinc (pc := 19) (lo' := [(0, .ref (o 33)), (1, .int x1), (2, .int z4), (3, .int z5)]) hX 3 z5 [1, 2, 3, 0] rfl (by rw [hz5]; rfl) (by decide) rfl dX1_quartersOfWeek_19 ?_
      refine q_goto (pc := 22) hX 4 (by decide) dX1_quartersOfWeek_22 ?_
      exact ih _ _ p6 hE hx

set_option maxHeartbeats 4000000 in
theorem c_X1_quartersOfWeek {Y : Lx} {o : Nat → Nat} {hn : Nat} {M : Mem} {G : Mel} {x1 : Int32} {rr : Int32} (hE : s_X1_quartersOfWeek M x1 = some (rr)) : MI Y yX1_quartersOfWeek cX1_quartersOfWeek 4 (some .int) 2 47 0 0 [.ref (o 33), .int x1] o hn M G (.inl (some (.int rr))) M G := by
  refine MI.of (by decide +kernel) (Nat.le_of_ble_eq_true rfl) (fun X hY hX hE0 hR => ?_)
  change CxOK X RX1 cX1_quartersOfWeek 4 2 47 0 0 (some .int) at hX
  show WM X o hn M G 0 0 0 4 [(0, .ref (o 33)), (1, .int x1)] []
  unfold s_X1_quartersOfWeek at hE
  refine q_iconst (pc := 0) hX (0) rfl dX1_quartersOfWeek_0 ?_
  refine q_istore_n (pc := 1) (lo' := [(0, .ref (o 33)), (1, .int x1), (2, .int 0)]) hX [1, 2, 0] rfl (by decide) rfl dX1_quartersOfWeek_1 ?_
  refine q_iconst (pc := 2) hX (0) rfl dX1_quartersOfWeek_2 ?_
  refine q_istore_n (pc := 3) (lo' := [(0, .ref (o 33)), (1, .int x1), (2, .int 0), (3, .int 0)]) hX [1, 2, 3, 0] rfl (by decide) rfl dX1_quartersOfWeek_3 ?_
  obtain ⟨p6, hp6, hE⟩ := ob_bind hE
  refine l_X1_quartersOfWeek_4 hX hE0 FU _ _ p6 hp6 ?_
  refine q_iload_n (pc := 25) hX 2 rfl rfl dX1_quartersOfWeek_25 ?_
  refine q_bipush (pc := 26) hX (7) (by decide) dX1_quartersOfWeek_26 ?_
  refine q_iadd (pc := 28) hX dX1_quartersOfWeek_28 ?_
  refine q_bipush (pc := 29) hX (15) (by decide) dX1_quartersOfWeek_29 ?_
  refine q_idiv (pc := 31) hX (by decide) dX1_quartersOfWeek_31 ?_
  cases hE
  exact q_iret hX hR (by decide) (by decide) dX1_quartersOfWeek_32

set_option maxHeartbeats 4000000 in
theorem l_X1_quartersOf_20 {X : Cx} (hX : CxOK X RX1 cX1_quartersOf 9 3 70 0 0 (some .int)) (hE0 : CxE X []) {o : Nat → Nat} {hn : Nat} {M : Mem} {x1 : Int32} {x2 : Int32} {G : Mel} {r1 : Int32} : ∀ (f : Nat) (y3 : Int32) (y4 : Int32) (y5 : Int32) (p14 : Int32 × Int32 × Int32), L_X1_quartersOf_20 M x1 x2 r1 f y3 y4 y5 = some p14 → WM X o hn M G 0 0 83 9 [(0, .ref (o 33)), (1, .int x1), (2, .int x2), (3, .int r1), (4, .int p14.1), (5, .int p14.2.1), (6, .int p14.2.2)] [] → WM X o hn M G 0 0 20 9 [(0, .ref (o 33)), (1, .int x1), (2, .int x2), (3, .int r1), (4, .int y3), (5, .int y4), (6, .int y5)] [] := by
  intro f
  induction f with
  | zero => intro y3 y4 y5 p14 hE; simp [L_X1_quartersOf_20] at hE
  | succ f ih =>
    intro y3 y4 y5 p14 hE hx
    rw [L_X1_quartersOf_20] at hE
    refine q_iload (pc := 20) hX 6 rfl dX1_quartersOf_20 ?_
    refine q_bipush (pc := 22) hX (7) (by decide) dX1_quartersOf_22 ?_
    refine q_icmp_ge (pc := 24) hX 83 (by decide) dX1_quartersOf_24 (fun c => ?_) (fun c => ?_)
    · rw [if_pos c] at hE
      cases hE
      exact hx
    · rw [if_neg c] at hE
      refine q_aload_n (pc := 27) hX 0 rfl rfl dX1_quartersOf_27 ?_
      refine q_iload (pc := 28) hX 6 rfl dX1_quartersOf_28 ?_
      refine q_iload_n (pc := 30) hX 2 rfl rfl dX1_quartersOf_30 ?_
      obtain ⟨r6, hr6, hE⟩ := ob_bind hE
      refine q_callV (pc := 31) (id := 33) (As := [.int y5, .int x2]) (rest := []) (rv := some (.int r6)) (st' := [.int r6]) hX (c_X1_minutesOf hr6) (vl_X1_90) (lt46 (by decide)) rfl rfl rfl pd_yX1_minutesOf rfl ⟨by decide, by decide⟩ ⟨Nat.le_of_ble_eq_true rfl, Nat.le_of_ble_eq_true rfl⟩ rfl (Nat.le_of_ble_eq_true rfl) rfl dX1_quartersOf_31 ?_
      refine q_istore (pc := 34) (lo' := [(0, .ref (o 33)), (1, .int x1), (2, .int x2), (3, .int r1), (4, .int y3), (5, .int y4), (6, .int y5), (7, .int r6)]) hX [1, 2, 3, 4, 5, 6, 7, 0] (by decide) rfl dX1_quartersOf_34 ?_
      refine q_iload (pc := 36) hX 7 rfl dX1_quartersOf_36 ?_
      refine q_bipush (pc := 38) hX (15) (by decide) dX1_quartersOf_38 ?_
      refine q_irem (pc := 40) hX (by decide) dX1_quartersOf_40 ?_
      refine q_iload_n (pc := 41) hX 3 rfl rfl dX1_quartersOf_41 ?_
      refine q_bipush (pc := 42) hX (15) (by decide) dX1_quartersOf_42 ?_
      refine q_irem (pc := 44) hX (by decide) dX1_quartersOf_44 ?_
      refine q_isub (pc := 45) hX dX1_quartersOf_45 ?_
      refine q_nm (fun z7 hz7 => ?_)
      have hE := bnd_nm hz7 hE
      refine q_istore (pc := 46) (lo' := [(0, .ref (o 33)), (1, .int x1), (2, .int x2), (3, .int r1), (4, .int y3), (5, .int y4), (6, .int y5), (7, .int r6), (8, .int z7)]) hX [1, 2, 3, 4, 5, 6, 7, 8, 0] (by decide) rfl dX1_quartersOf_46 ?_
      refine q_iload (pc := 48) hX 4 rfl dX1_quartersOf_48 ?_
      refine q_iload (pc := 50) hX 7 rfl dX1_quartersOf_50 ?_
      refine q_bipush (pc := 52) hX (15) (by decide) dX1_quartersOf_52 ?_
      refine q_idiv (pc := 54) hX (by decide) dX1_quartersOf_54 ?_
      refine q_isub (pc := 55) hX dX1_quartersOf_55 ?_
      refine q_nm (fun z8 hz8 => ?_)
      have hE := bnd_nm hz8 hE
      refine q_istore (pc := 56) (lo' := [(0, .ref (o 33)), (1, .int x1), (2, .int x2), (3, .int r1), (4, .int z8), (5, .int y4), (6, .int y5), (7, .int r6), (8, .int z7)]) hX [1, 2, 3, 4, 0, 5, 6, 7, 8] (by decide) rfl dX1_quartersOf_56 ?_
      refine q_iload (pc := 58) hX 8 rfl dX1_quartersOf_58 ?_
      obtain ⟨p12, hp12, hE⟩ := bnd_ob hE
      suffices Jp12 : WM X o hn M G 0 0 77 9 [(0, .ref (o 33)), (1, .int x1), (2, .int x2), (3, .int r1), (4, .int z8), (5, .int p12), (6, .int y5)] [] by
        refine q_if_gt (pc := 60) hX 74 (by decide) dX1_quartersOf_60 (fun c => ?_) (fun c => ?_)
        · rw [if_pos c] at hp12
          obtain ⟨z10, hz10⟩ : ∃ z : Int32, z = y4 + 1 := ⟨_, rfl⟩
          have hp12 := bnd_nm hz10 hp12
          refine q_iinc (pc := 74) (lo' := [(0, .ref (o 33)), (1, .int x1), (2, .int x2), (3, .int r1), (4, .int z8), (5, .int z10), (6, .int y5), (7, .int r6), (8, .int z7)]) hX 5 z10 [1, 2, 3, 4, 5, 0, 6, 7, 8] rfl (by rw [hz10]; rfl) (by decide) rfl dX1_quartersOf_74 ?_
          refine q_lo [0, 1, 2, 3, 4, 5, 6] rfl ?_
          cases hp12
          exact Jp12
        · rw [if_neg c] at hp12
          refine q_iload (pc := 63) hX 8 rfl dX1_quartersOf_63 ?_
          refine q_if_ne (pc := 65) hX 77 (by decide) dX1_quartersOf_65 (fun c => ?_) (fun c => ?_)
          · rw [if_neg c] at hp12
            refine q_lo [0, 1, 2, 3, 4, 5, 6] rfl ?_
            cases hp12
            exact Jp12
          · rw [if_pos c] at hp12
            refine q_iload (pc := 68) hX 6 rfl dX1_quartersOf_68 ?_
            refine q_iload_n (pc := 70) hX 1 rfl rfl dX1_quartersOf_70 ?_
            refine q_icmp_ge (pc := 71) hX 77 (by decide) dX1_quartersOf_71 (fun c => ?_) (fun c => ?_)
            · rw [if_pos c] at hp12
              refine q_lo [0, 1, 2, 3, 4, 5, 6] rfl ?_
              cases hp12
              exact Jp12
            · rw [if_neg c] at hp12
              obtain ⟨z11, hz11⟩ : ∃ z : Int32, z = y4 + 1 := ⟨_, rfl⟩
              have hp12 := bnd_nm hz11 hp12
              refine q_iinc (pc := 74) (lo' := [(0, .ref (o 33)), (1, .int x1), (2, .int x2), (3, .int r1), (4, .int z8), (5, .int z11), (6, .int y5), (7, .int r6), (8, .int z7)]) hX 5 z11 [1, 2, 3, 4, 5, 0, 6, 7, 8] rfl (by rw [hz11]; rfl) (by decide) rfl dX1_quartersOf_74 ?_
              refine q_lo [0, 1, 2, 3, 4, 5, 6] rfl ?_
              cases hp12
              exact Jp12
      obtain ⟨z13, hz13⟩ : ∃ z : Int32, z = y5 + 1 := ⟨_, rfl⟩
      have hE := bnd_nm hz13 hE
      refine q_iinc (pc := 77) (lo' := [(0, .ref (o 33)), (1, .int x1), (2, .int x2), (3, .int r1), (4, .int z8), (5, .int p12), (6, .int z13)]) hX 6 z13 [1, 2, 3, 4, 5, 6, 0] rfl (by rw [hz13]; rfl) (by decide) rfl dX1_quartersOf_77 ?_
      refine q_goto (pc := 80) hX 20 (by decide) dX1_quartersOf_80 ?_
      exact ih _ _ _ p14 hE hx

set_option maxHeartbeats 4000000 in
theorem c_X1_quartersOf {Y : Lx} {o : Nat → Nat} {hn : Nat} {M : Mem} {G : Mel} {x1 : Int32} {x2 : Int32} {rr : Int32} (hE : s_X1_quartersOf M x1 x2 = some (rr)) : MI Y yX1_quartersOf cX1_quartersOf 9 (some .int) 3 70 0 0 [.ref (o 33), .int x1, .int x2] o hn M G (.inl (some (.int rr))) M G := by
  refine MI.of (by decide +kernel) (Nat.le_of_ble_eq_true rfl) (fun X hY hX hE0 hR => ?_)
  change CxOK X RX1 cX1_quartersOf 9 3 70 0 0 (some .int) at hX
  show WM X o hn M G 0 0 0 9 [(0, .ref (o 33)), (1, .int x1), (2, .int x2)] []
  unfold s_X1_quartersOf at hE
  refine q_aload_n (pc := 0) hX 0 rfl rfl dX1_quartersOf_0 ?_
  refine q_iload_n (pc := 1) hX 1 rfl rfl dX1_quartersOf_1 ?_
  refine q_iload_n (pc := 2) hX 2 rfl rfl dX1_quartersOf_2 ?_
  obtain ⟨r1, hr1, hE⟩ := ob_bind hE
  refine q_callV (pc := 3) (id := 33) (As := [.int x1, .int x2]) (rest := []) (rv := some (.int r1)) (st' := [.int r1]) hX (c_X1_minutesOf hr1) (vl_X1_90) (lt46 (by decide)) rfl rfl rfl pd_yX1_minutesOf rfl ⟨by decide, by decide⟩ ⟨Nat.le_of_ble_eq_true rfl, Nat.le_of_ble_eq_true rfl⟩ rfl (Nat.le_of_ble_eq_true rfl) rfl dX1_quartersOf_3 ?_
  refine q_istore_n (pc := 6) (lo' := [(0, .ref (o 33)), (1, .int x1), (2, .int x2), (3, .int r1)]) hX [1, 2, 3, 0] rfl (by decide) rfl dX1_quartersOf_6 ?_
  refine q_aload_n (pc := 7) hX 0 rfl rfl dX1_quartersOf_7 ?_
  refine q_iload_n (pc := 8) hX 2 rfl rfl dX1_quartersOf_8 ?_
  obtain ⟨r2, hr2, hE⟩ := ob_bind hE
  refine q_callV (pc := 9) (id := 33) (As := [.int x2]) (rest := []) (rv := some (.int r2)) (st' := [.int r2]) hX (c_X1_quartersOfWeek hr2) (vl_X1_93) (lt46 (by decide)) rfl rfl rfl pd_yX1_quartersOfWeek rfl ⟨by decide, by decide⟩ ⟨Nat.le_of_ble_eq_true rfl, Nat.le_of_ble_eq_true rfl⟩ rfl (Nat.le_of_ble_eq_true rfl) rfl dX1_quartersOf_9 ?_
  refine q_istore (pc := 12) (lo' := [(0, .ref (o 33)), (1, .int x1), (2, .int x2), (3, .int r1), (4, .int r2)]) hX [1, 2, 3, 4, 0] (by decide) rfl dX1_quartersOf_12 ?_
  refine q_iconst (pc := 14) hX (0) rfl dX1_quartersOf_14 ?_
  refine q_istore (pc := 15) (lo' := [(0, .ref (o 33)), (1, .int x1), (2, .int x2), (3, .int r1), (4, .int r2), (5, .int 0)]) hX [1, 2, 3, 4, 5, 0] (by decide) rfl dX1_quartersOf_15 ?_
  refine q_iconst (pc := 17) hX (0) rfl dX1_quartersOf_17 ?_
  refine q_istore (pc := 18) (lo' := [(0, .ref (o 33)), (1, .int x1), (2, .int x2), (3, .int r1), (4, .int r2), (5, .int 0), (6, .int 0)]) hX [1, 2, 3, 4, 5, 6, 0] (by decide) rfl dX1_quartersOf_18 ?_
  obtain ⟨p14, hp14, hE⟩ := ob_bind hE
  refine l_X1_quartersOf_20 hX hE0 FU _ _ _ p14 hp14 ?_
  refine q_iload_n (pc := 83) hX 3 rfl rfl dX1_quartersOf_83 ?_
  refine q_bipush (pc := 84) hX (15) (by decide) dX1_quartersOf_84 ?_
  refine q_idiv (pc := 86) hX (by decide) dX1_quartersOf_86 ?_
  refine q_iload (pc := 87) hX 5 rfl dX1_quartersOf_87 ?_
  refine q_iload (pc := 89) hX 4 rfl dX1_quartersOf_89 ?_
  obtain ⟨p16, hp16, hE⟩ := bnd_ob hE
  suffices Jp16 : WM X o hn M G 0 0 99 9 [] [.int p16, .int (r1 / 15)] by
    refine q_icmp_ge (pc := 91) hX 98 (by decide) dX1_quartersOf_91 (fun c => ?_) (fun c => ?_)
    · rw [if_pos c] at hp16
      refine q_iconst (pc := 98) hX (0) rfl dX1_quartersOf_98 ?_
      refine q_lo [] rfl ?_
      cases hp16
      exact Jp16
    · rw [if_neg c] at hp16
      refine q_iconst (pc := 94) hX (1) rfl dX1_quartersOf_94 ?_
      refine q_goto (pc := 95) hX 99 (by decide) dX1_quartersOf_95 ?_
      refine q_lo [] rfl ?_
      cases hp16
      exact Jp16
  refine q_iadd (pc := 99) hX dX1_quartersOf_99 ?_
  cases hE
  exact q_iret hX hR (by decide) (by decide) dX1_quartersOf_100

set_option maxHeartbeats 4000000 in
theorem c_X1_basicPay {Y : Lx} {o : Nat → Nat} {hn : Nat} {M : Mem} {G : Mel} {x1 : Int32} {rr : Int32} (hE : s_X1_basicPay M x1 = some (rr)) : MI Y yX1_basicPay cX1_basicPay 3 (some .int) 3 70 0 0 [.ref (o 33), .int x1] o hn M G (.inl (some (.int rr))) M G := by
  refine MI.of (by decide +kernel) (Nat.le_of_ble_eq_true rfl) (fun X hY hX hE0 hR => ?_)
  change CxOK X RX1 cX1_basicPay 3 3 70 0 0 (some .int) at hX
  show WM X o hn M G 0 0 0 3 [(0, .ref (o 33)), (1, .int x1)] []
  unfold s_X1_basicPay at hE
  refine q_iconst (pc := 0) hX (2) rfl dX1_basicPay_0 ?_
  refine q_aload_n (pc := 1) hX 0 rfl rfl dX1_basicPay_1 ?_
  refine q_iconst (pc := 2) hX (0) rfl dX1_basicPay_2 ?_
  obtain ⟨r1, hr1, hE⟩ := ob_bind hE
  refine q_callV (pc := 3) (id := 33) (As := [.int 0]) (rest := [.int 2]) (rv := some (.int r1)) (st' := [.int r1, .int 2]) hX (c_X1_quartersOfWeek hr1) (vl_X1_93) (lt46 (by decide)) rfl rfl rfl pd_yX1_quartersOfWeek rfl ⟨by decide, by decide⟩ ⟨Nat.le_of_ble_eq_true rfl, Nat.le_of_ble_eq_true rfl⟩ rfl (Nat.le_of_ble_eq_true rfl) rfl dX1_basicPay_3 ?_
  refine q_imul (pc := 6) hX dX1_basicPay_6 ?_
  refine q_iconst (pc := 7) hX (3) rfl dX1_basicPay_7 ?_
  refine q_aload_n (pc := 8) hX 0 rfl rfl dX1_basicPay_8 ?_
  refine q_iconst (pc := 9) hX (1) rfl dX1_basicPay_9 ?_
  obtain ⟨r2, hr2, hE⟩ := ob_bind hE
  refine q_callV (pc := 10) (id := 33) (As := [.int 1]) (rest := [.int 3, .int (2 * r1)]) (rv := some (.int r2)) (st' := [.int r2, .int 3, .int (2 * r1)]) hX (c_X1_quartersOfWeek hr2) (vl_X1_93) (lt46 (by decide)) rfl rfl rfl pd_yX1_quartersOfWeek rfl ⟨by decide, by decide⟩ ⟨Nat.le_of_ble_eq_true rfl, Nat.le_of_ble_eq_true rfl⟩ rfl (Nat.le_of_ble_eq_true rfl) rfl dX1_basicPay_10 ?_
  refine q_imul (pc := 13) hX dX1_basicPay_13 ?_
  refine q_iadd (pc := 14) hX dX1_basicPay_14 ?_
  refine q_iconst (pc := 15) hX (4) rfl dX1_basicPay_15 ?_
  refine q_aload_n (pc := 16) hX 0 rfl rfl dX1_basicPay_16 ?_
  refine q_iconst (pc := 17) hX (2) rfl dX1_basicPay_17 ?_
  obtain ⟨r3, hr3, hE⟩ := ob_bind hE
  refine q_callV (pc := 18) (id := 33) (As := [.int 2]) (rest := [.int 4, .int ((2 * r1) + (3 * r2))]) (rv := some (.int r3)) (st' := [.int r3, .int 4, .int ((2 * r1) + (3 * r2))]) hX (c_X1_quartersOfWeek hr3) (vl_X1_93) (lt46 (by decide)) rfl rfl rfl pd_yX1_quartersOfWeek rfl ⟨by decide, by decide⟩ ⟨Nat.le_of_ble_eq_true rfl, Nat.le_of_ble_eq_true rfl⟩ rfl (Nat.le_of_ble_eq_true rfl) rfl dX1_basicPay_18 ?_
  refine q_imul (pc := 21) hX dX1_basicPay_21 ?_
  refine q_iadd (pc := 22) hX dX1_basicPay_22 ?_
  refine q_nm (fun z4 hz4 => ?_)
  have hE := bnd_nm hz4 hE
  refine q_istore_n (pc := 23) (lo' := [(0, .ref (o 33)), (1, .int x1), (2, .int z4)]) hX [1, 2, 0] rfl (by decide) rfl dX1_basicPay_23 ?_
  refine q_iload_n (pc := 24) hX 1 rfl rfl dX1_basicPay_24 ?_
  refine q_iload_n (pc := 25) hX 2 rfl rfl dX1_basicPay_25 ?_
  refine q_imul (pc := 26) hX dX1_basicPay_26 ?_
  refine q_iconst (pc := 27) hX (4) rfl dX1_basicPay_27 ?_
  refine q_iadd (pc := 28) hX dX1_basicPay_28 ?_
  refine q_bipush (pc := 29) hX (8) (by decide) dX1_basicPay_29 ?_
  refine q_idiv (pc := 31) hX (by decide) dX1_basicPay_31 ?_
  cases hE
  exact q_iret hX hR (by decide) (by decide) dX1_basicPay_32

set_option maxHeartbeats 4000000 in
theorem c_X2_add {Y : Lx} {o : Nat → Nat} {hn : Nat} {M : Mem} {G : Mel} {x1 : Int32} {x2 : Int32} {x3 : Int32} {x4 : Int32} {rr : Int32} {Mr : Mem} (hE : s_X2_add M x1 x2 x3 x4 = some (rr, Mr)) : MI Y yX2_add cX2_add 6 (some .int) 1 24 0 0 [.ref (o 30), .int x1, .int x2, .int x3, .int x4] o hn M G (.inl (some (.int rr))) Mr G := by
  refine MI.of (by decide +kernel) (Nat.le_of_ble_eq_true rfl) (fun X hY hX hE0 hR => ?_)
  change CxOK X RX2 cX2_add 6 1 24 0 0 (some .int) at hX
  show WM X o hn M G 0 0 0 6 [(0, .ref (o 30)), (1, .int x1), (2, .int x2), (3, .int x3), (4, .int x4)] []
  unfold s_X2_add at hE
  refine q_aload_n (pc := 0) hX 0 rfl rfl dX2_add_0 ?_
  refine q_get (pc := 1) (id := 30) (ci := 2) (N := 1) (T := TX2) (C := RX2) hX 0 (lt46 (by decide)) rfl rfl in_X2 (by decide) (Or.inl kw_30) rfl dX2_add_1 ?_
  obtain ⟨r1, hr1, hE⟩ := ob_bind hE
  refine q_callV (pc := 4) (id := 31) (As := []) (rest := []) (rv := some (.int r1)) (st' := [.int r1]) hX (c_X4_size (tb_31 hn) hr1) (vl_X2_20) (lt46 (by decide)) (ob_T (tb_31 hn).1 _ _) rfl rfl pd_yX4_size rfl ⟨by decide, by decide⟩ ⟨Nat.le_of_ble_eq_true rfl, Nat.le_of_ble_eq_true rfl⟩ rfl (Nat.le_of_ble_eq_true rfl) rfl dX2_add_4 ?_
  refine q_istore (pc := 7) (lo' := [(0, .ref (o 30)), (1, .int x1), (2, .int x2), (3, .int x3), (4, .int x4), (5, .int r1)]) hX [1, 2, 3, 4, 5, 0] (by decide) rfl dX2_add_7 ?_
  refine q_aload_n (pc := 9) hX 0 rfl rfl dX2_add_9 ?_
  refine q_get (pc := 10) (id := 30) (ci := 2) (N := 1) (T := TX2) (C := RX2) hX 0 (lt46 (by decide)) rfl rfl in_X2 (by decide) (Or.inl kw_30) rfl dX2_add_10 ?_
  refine q_iload (pc := 13) hX 5 rfl dX2_add_13 ?_
  obtain ⟨r2, hr2, hE⟩ := ob_bind hE
  refine q_callV (pc := 15) (id := 31) (As := [.int r1]) (rest := []) (rv := none) (st' := []) hX (c_X4_insert (tb_31 hn) hr2) (vl_X2_24) (lt46 (by decide)) (ob_T (tb_31 hn).1 _ _) rfl rfl pd_yX4_insert rfl ⟨by decide, by decide⟩ ⟨Nat.le_of_ble_eq_true rfl, Nat.le_of_ble_eq_true rfl⟩ rfl (Nat.le_of_ble_eq_true rfl) rfl dX2_add_15 ?_
  refine q_aload_n (pc := 18) hX 0 rfl rfl dX2_add_18 ?_
  refine q_get (pc := 19) (id := 30) (ci := 2) (N := 1) (T := TX2) (C := RX2) hX 0 (lt46 (by decide)) rfl rfl in_X2 (by decide) (Or.inl kw_30) rfl dX2_add_19 ?_
  refine q_iload (pc := 22) hX 5 rfl dX2_add_22 ?_
  refine q_iconst (pc := 24) hX (0) rfl dX2_add_24 ?_
  refine q_iload_n (pc := 25) hX 1 rfl rfl dX2_add_25 ?_
  obtain ⟨r3, hr3, hE⟩ := ob_bind hE
  refine q_callV (pc := 26) (id := 31) (As := [.int r1, .int 0, .int x1]) (rest := []) (rv := none) (st' := []) hX (c_X4_set (tb_31 hn) hr3) (vl_X2_28) (lt46 (by decide)) (ob_T (tb_31 hn).1 _ _) rfl rfl pd_yX4_set rfl ⟨by decide, by decide⟩ ⟨Nat.le_of_ble_eq_true rfl, Nat.le_of_ble_eq_true rfl⟩ rfl (Nat.le_of_ble_eq_true rfl) rfl dX2_add_26 ?_
  refine q_aload_n (pc := 29) hX 0 rfl rfl dX2_add_29 ?_
  refine q_get (pc := 30) (id := 30) (ci := 2) (N := 1) (T := TX2) (C := RX2) hX 0 (lt46 (by decide)) rfl rfl in_X2 (by decide) (Or.inl kw_30) rfl dX2_add_30 ?_
  refine q_iload (pc := 33) hX 5 rfl dX2_add_33 ?_
  refine q_iconst (pc := 35) hX (1) rfl dX2_add_35 ?_
  refine q_iload_n (pc := 36) hX 2 rfl rfl dX2_add_36 ?_
  obtain ⟨r4, hr4, hE⟩ := ob_bind hE
  refine q_callV (pc := 37) (id := 31) (As := [.int r1, .int 1, .int x2]) (rest := []) (rv := none) (st' := []) hX (c_X4_set (tb_31 hn) hr4) (vl_X2_28) (lt46 (by decide)) (ob_T (tb_31 hn).1 _ _) rfl rfl pd_yX4_set rfl ⟨by decide, by decide⟩ ⟨Nat.le_of_ble_eq_true rfl, Nat.le_of_ble_eq_true rfl⟩ rfl (Nat.le_of_ble_eq_true rfl) rfl dX2_add_37 ?_
  refine q_aload_n (pc := 40) hX 0 rfl rfl dX2_add_40 ?_
  refine q_get (pc := 41) (id := 30) (ci := 2) (N := 1) (T := TX2) (C := RX2) hX 0 (lt46 (by decide)) rfl rfl in_X2 (by decide) (Or.inl kw_30) rfl dX2_add_41 ?_
  refine q_iload (pc := 44) hX 5 rfl dX2_add_44 ?_
  refine q_iconst (pc := 46) hX (2) rfl dX2_add_46 ?_
  refine q_iload_n (pc := 47) hX 3 rfl rfl dX2_add_47 ?_
  obtain ⟨r5, hr5, hE⟩ := ob_bind hE
  refine q_callV (pc := 48) (id := 31) (As := [.int r1, .int 2, .int x3]) (rest := []) (rv := none) (st' := []) hX (c_X4_set (tb_31 hn) hr5) (vl_X2_28) (lt46 (by decide)) (ob_T (tb_31 hn).1 _ _) rfl rfl pd_yX4_set rfl ⟨by decide, by decide⟩ ⟨Nat.le_of_ble_eq_true rfl, Nat.le_of_ble_eq_true rfl⟩ rfl (Nat.le_of_ble_eq_true rfl) rfl dX2_add_48 ?_
  refine q_aload_n (pc := 51) hX 0 rfl rfl dX2_add_51 ?_
  refine q_get (pc := 52) (id := 30) (ci := 2) (N := 1) (T := TX2) (C := RX2) hX 0 (lt46 (by decide)) rfl rfl in_X2 (by decide) (Or.inl kw_30) rfl dX2_add_52 ?_
  refine q_iload (pc := 55) hX 5 rfl dX2_add_55 ?_
  refine q_iconst (pc := 57) hX (3) rfl dX2_add_57 ?_
  refine q_iload (pc := 58) hX 4 rfl dX2_add_58 ?_
  obtain ⟨r6, hr6, hE⟩ := ob_bind hE
  refine q_callV (pc := 60) (id := 31) (As := [.int r1, .int 3, .int x4]) (rest := []) (rv := none) (st' := []) hX (c_X4_set (tb_31 hn) hr6) (vl_X2_28) (lt46 (by decide)) (ob_T (tb_31 hn).1 _ _) rfl rfl pd_yX4_set rfl ⟨by decide, by decide⟩ ⟨Nat.le_of_ble_eq_true rfl, Nat.le_of_ble_eq_true rfl⟩ rfl (Nat.le_of_ble_eq_true rfl) rfl dX2_add_60 ?_
  refine q_iload (pc := 63) hX 5 rfl dX2_add_63 ?_
  cases hE
  exact q_iret hX hR (by decide) (by decide) dX2_add_65

set_option maxHeartbeats 4000000 in
theorem l_X2_nextChange_6 {X : Cx} (hX : CxOK X RX2 cX2_nextChange 6 1 24 0 0 (some .int)) (hE0 : CxE X []) {o : Nat → Nat} {hn : Nat} {M : Mem} {x1 : Int32} {G : Mel} : ∀ (f : Nat) (y1 : Int32) (y2 : Int32) (p11 : Int32 × Int32), L_X2_nextChange_6 M x1 f y1 y2 = some p11 → WM X o hn M G 0 0 79 6 [(0, .ref (o 30)), (1, .int x1), (2, .int p11.1), (3, .int p11.2)] [] → WM X o hn M G 0 0 6 6 [(0, .ref (o 30)), (1, .int x1), (2, .int y1), (3, .int y2)] [] := by
  intro f
  induction f with
  | zero => intro y1 y2 p11 hE; simp [L_X2_nextChange_6] at hE
  | succ f ih =>
    intro y1 y2 p11 hE hx
    rw [L_X2_nextChange_6] at hE
    refine q_iload_n (pc := 6) hX 3 rfl rfl dX2_nextChange_6 ?_
    refine q_aload_n (pc := 7) hX 0 rfl rfl dX2_nextChange_7 ?_
    refine q_get (pc := 8) (id := 30) (ci := 2) (N := 1) (T := TX2) (C := RX2) hX 0 (lt46 (by decide)) rfl rfl in_X2 (by decide) (Or.inl kw_30) rfl dX2_nextChange_8 ?_
    obtain ⟨r3, hr3, hE⟩ := ob_bind hE
    refine q_callV (pc := 11) (id := 31) (As := []) (rest := [.int y2]) (rv := some (.int r3)) (st' := [.int r3, .int y2]) hX (c_X4_size (tb_31 hn) hr3) (vl_X2_20) (lt46 (by decide)) (ob_T (tb_31 hn).1 _ _) rfl rfl pd_yX4_size rfl ⟨by decide, by decide⟩ ⟨Nat.le_of_ble_eq_true rfl, Nat.le_of_ble_eq_true rfl⟩ rfl (Nat.le_of_ble_eq_true rfl) rfl dX2_nextChange_11 ?_
    refine q_icmp_ge (pc := 14) hX 79 (by decide) dX2_nextChange_14 (fun c => ?_) (fun c => ?_)
    · rw [if_pos c] at hE
      cases hE
      exact hx
    · rw [if_neg c] at hE
      refine q_aload_n (pc := 17) hX 0 rfl rfl dX2_nextChange_17 ?_
      refine q_get (pc := 18) (id := 30) (ci := 2) (N := 1) (T := TX2) (C := RX2) hX 0 (lt46 (by decide)) rfl rfl in_X2 (by decide) (Or.inl kw_30) rfl dX2_nextChange_18 ?_
      refine q_iload_n (pc := 21) hX 3 rfl rfl dX2_nextChange_21 ?_
      refine q_iconst (pc := 22) hX (1) rfl dX2_nextChange_22 ?_
      obtain ⟨r4, hr4, hE⟩ := ob_bind hE
      refine q_callV (pc := 23) (id := 31) (As := [.int y2, .int 1]) (rest := []) (rv := some (.int r4)) (st' := [.int r4]) hX (c_X4_get (tb_31 hn) hr4) (vl_X2_32) (lt46 (by decide)) (ob_T (tb_31 hn).1 _ _) rfl rfl pd_yX4_get rfl ⟨by decide, by decide⟩ ⟨Nat.le_of_ble_eq_true rfl, Nat.le_of_ble_eq_true rfl⟩ rfl (Nat.le_of_ble_eq_true rfl) rfl dX2_nextChange_23 ?_
      refine q_istore (pc := 26) (lo' := [(0, .ref (o 30)), (1, .int x1), (2, .int y1), (3, .int y2), (4, .int r4)]) hX [1, 2, 3, 4, 0] (by decide) rfl dX2_nextChange_26 ?_
      refine q_aload_n (pc := 28) hX 0 rfl rfl dX2_nextChange_28 ?_
      refine q_get (pc := 29) (id := 30) (ci := 2) (N := 1) (T := TX2) (C := RX2) hX 0 (lt46 (by decide)) rfl rfl in_X2 (by decide) (Or.inl kw_30) rfl dX2_nextChange_29 ?_
      refine q_iload_n (pc := 32) hX 3 rfl rfl dX2_nextChange_32 ?_
      refine q_iconst (pc := 33) hX (2) rfl dX2_nextChange_33 ?_
      obtain ⟨r5, hr5, hE⟩ := ob_bind hE
      refine q_callV (pc := 34) (id := 31) (As := [.int y2, .int 2]) (rest := []) (rv := some (.int r5)) (st' := [.int r5]) hX (c_X4_get (tb_31 hn) hr5) (vl_X2_32) (lt46 (by decide)) (ob_T (tb_31 hn).1 _ _) rfl rfl pd_yX4_get rfl ⟨by decide, by decide⟩ ⟨Nat.le_of_ble_eq_true rfl, Nat.le_of_ble_eq_true rfl⟩ rfl (Nat.le_of_ble_eq_true rfl) rfl dX2_nextChange_34 ?_
      refine q_istore (pc := 37) (lo' := [(0, .ref (o 30)), (1, .int x1), (2, .int y1), (3, .int y2), (4, .int r4), (5, .int r5)]) hX [1, 2, 3, 4, 5, 0] (by decide) rfl dX2_nextChange_37 ?_
      refine q_iload (pc := 39) hX 4 rfl dX2_nextChange_39 ?_
      refine q_iload_n (pc := 41) hX 1 rfl rfl dX2_nextChange_41 ?_
      obtain ⟨p7, hp7, hE⟩ := bnd_ob hE
      suffices Jp7 : WM X o hn M G 0 0 55 6 [(0, .ref (o 30)), (1, .int x1), (3, .int y2), (5, .int r5)] [.int p7] by
        refine q_icmp_le (pc := 42) hX 54 (by decide) dX2_nextChange_42 (fun c => ?_) (fun c => ?_)
        · rw [if_pos c] at hp7
          refine q_iload_n (pc := 54) hX 2 rfl rfl dX2_nextChange_54 ?_
          refine q_lo [0, 1, 3, 5] rfl ?_
          cases hp7
          exact Jp7
        · rw [if_neg c] at hp7
          refine q_iload_n (pc := 45) hX 2 rfl rfl dX2_nextChange_45 ?_
          refine q_iload (pc := 46) hX 4 rfl dX2_nextChange_46 ?_
          refine r_min (pc := 48) hX kw_291 kw_191 kw_192 kw_193 (by decide) (Nat.le_of_ble_eq_true rfl) (Nat.le_of_ble_eq_true rfl) (Nat.le_of_ble_eq_true rfl) dX2_nextChange_48 ?_
          refine q_goto (pc := 51) hX 55 (by decide) dX2_nextChange_51 ?_
          refine q_lo [0, 1, 3, 5] rfl ?_
          cases hp7
          exact Jp7
      refine q_istore_n (pc := 55) (lo' := [(0, .ref (o 30)), (1, .int x1), (2, .int p7), (3, .int y2), (5, .int r5)]) hX [1, 2, 0, 3, 4] rfl (by decide) rfl dX2_nextChange_55 ?_
      refine q_iload (pc := 56) hX 4 rfl dX2_nextChange_56 ?_
      refine q_iload_n (pc := 58) hX 1 rfl rfl dX2_nextChange_58 ?_
      obtain ⟨p9, hp9, hE⟩ := bnd_ob hE
      suffices Jp9 : WM X o hn M G 0 0 72 6 [(0, .ref (o 30)), (1, .int x1), (3, .int y2)] [.int p9] by
        refine q_icmp_le (pc := 59) hX 71 (by decide) dX2_nextChange_59 (fun c => ?_) (fun c => ?_)
        · rw [if_pos c] at hp9
          refine q_iload_n (pc := 71) hX 2 rfl rfl dX2_nextChange_71 ?_
          refine q_lo [0, 1, 3] rfl ?_
          cases hp9
          exact Jp9
        · rw [if_neg c] at hp9
          refine q_iload_n (pc := 62) hX 2 rfl rfl dX2_nextChange_62 ?_
          refine q_iload (pc := 63) hX 4 rfl dX2_nextChange_63 ?_
          refine r_min (pc := 65) hX kw_291 kw_191 kw_192 kw_193 (by decide) (Nat.le_of_ble_eq_true rfl) (Nat.le_of_ble_eq_true rfl) (Nat.le_of_ble_eq_true rfl) dX2_nextChange_65 ?_
          refine q_goto (pc := 68) hX 72 (by decide) dX2_nextChange_68 ?_
          refine q_lo [0, 1, 3] rfl ?_
          cases hp9
          exact Jp9
      refine q_istore_n (pc := 72) (lo' := [(0, .ref (o 30)), (1, .int x1), (2, .int p9), (3, .int y2)]) hX [1, 2, 0, 3] rfl (by decide) rfl dX2_nextChange_72 ?_
      obtain ⟨z10, hz10⟩ : ∃ z : Int32, z = y2 + 1 := ⟨_, rfl⟩
      have hE := bnd_nm hz10 hE
      refine q_iinc (pc := 73) (lo' := [(0, .ref (o 30)), (1, .int x1), (2, .int p9), (3, .int z10)]) hX 3 z10 [1, 2, 3, 0] rfl (by rw [hz10]; rfl) (by decide) rfl dX2_nextChange_73 ?_
      refine q_goto (pc := 76) hX 6 (by decide) dX2_nextChange_76 ?_
      exact ih _ _ p11 hE hx

set_option maxHeartbeats 4000000 in
theorem c_X2_nextChange {Y : Lx} {o : Nat → Nat} {hn : Nat} {M : Mem} {G : Mel} {x1 : Int32} {rr : Int32} (hE : s_X2_nextChange M x1 = some (rr)) : MI Y yX2_nextChange cX2_nextChange 6 (some .int) 1 24 0 0 [.ref (o 30), .int x1] o hn M G (.inl (some (.int rr))) M G := by
  refine MI.of (by decide +kernel) (Nat.le_of_ble_eq_true rfl) (fun X hY hX hE0 hR => ?_)
  change CxOK X RX2 cX2_nextChange 6 1 24 0 0 (some .int) at hX
  show WM X o hn M G 0 0 0 6 [(0, .ref (o 30)), (1, .int x1)] []
  unfold s_X2_nextChange at hE
  refine q_sipush (pc := 0) hX (1440) (by decide) dX2_nextChange_0 ?_
  refine q_istore_n (pc := 3) (lo' := [(0, .ref (o 30)), (1, .int x1), (2, .int 1440)]) hX [1, 2, 0] rfl (by decide) rfl dX2_nextChange_3 ?_
  refine q_iconst (pc := 4) hX (0) rfl dX2_nextChange_4 ?_
  refine q_istore_n (pc := 5) (lo' := [(0, .ref (o 30)), (1, .int x1), (2, .int 1440), (3, .int 0)]) hX [1, 2, 3, 0] rfl (by decide) rfl dX2_nextChange_5 ?_
  obtain ⟨p11, hp11, hE⟩ := ob_bind hE
  refine l_X2_nextChange_6 hX hE0 FU _ _ p11 hp11 ?_
  refine q_iload_n (pc := 79) hX 2 rfl rfl dX2_nextChange_79 ?_
  cases hE
  exact q_iret hX hR (by decide) (by decide) dX2_nextChange_80

set_option maxHeartbeats 4000000 in
theorem c_X2_isBetween {Y : Lx} {o : Nat → Nat} {hn : Nat} {M : Mem} {G : Mel} {x0 : Int32} {x1 : Int32} {x2 : Int32} {rr : Int32} (hE : s_X2_isBetween x0 x1 x2 = some (rr)) : MI Y yX2_isBetween cX2_isBetween 3 (some .boolean) 0 0 0 0 [.int x0, .int x1, .int x2] o hn M G (.inl (some (.int rr))) M G := by
  refine MI.of (by decide +kernel) (Nat.le_of_ble_eq_true rfl) (fun X hY hX hE0 hR => ?_)
  change CxOK X RX2 cX2_isBetween 3 0 0 0 0 (some .boolean) at hX
  show WM X o hn M G 0 0 0 3 [(0, .int x0), (1, .int x1), (2, .int x2)] []
  unfold s_X2_isBetween at hE
  refine q_iload_n (pc := 0) hX 1 rfl rfl dX2_isBetween_0 ?_
  refine q_iload_n (pc := 1) hX 2 rfl rfl dX2_isBetween_1 ?_
  refine q_icmp_ge (pc := 2) hX 21 (by decide) dX2_isBetween_2 (fun c => ?_) (fun c => ?_)
  · rw [if_pos c] at hE
    refine q_iload_n (pc := 21) hX 1 rfl rfl dX2_isBetween_21 ?_
    refine q_iload_n (pc := 22) hX 2 rfl rfl dX2_isBetween_22 ?_
    refine q_icmp_eq (pc := 23) hX 36 (by decide) dX2_isBetween_23 (fun c => ?_) (fun c => ?_)
    · rw [if_pos c] at hE
      refine q_iconst (pc := 36) hX (1) rfl dX2_isBetween_36 ?_
      refine q_goto (pc := 37) hX 41 (by decide) dX2_isBetween_37 ?_
      cases hE
      exact q_zret hX (Or.inr rfl) hR (by decide) (by decide) dX2_isBetween_41
    · rw [if_neg c] at hE
      refine q_iload_n (pc := 26) hX 0 rfl rfl dX2_isBetween_26 ?_
      refine q_iload_n (pc := 27) hX 1 rfl rfl dX2_isBetween_27 ?_
      refine q_icmp_ge (pc := 28) hX 36 (by decide) dX2_isBetween_28 (fun c => ?_) (fun c => ?_)
      · rw [if_pos c] at hE
        refine q_iconst (pc := 36) hX (1) rfl dX2_isBetween_36 ?_
        refine q_goto (pc := 37) hX 41 (by decide) dX2_isBetween_37 ?_
        cases hE
        exact q_zret hX (Or.inr rfl) hR (by decide) (by decide) dX2_isBetween_41
      · rw [if_neg c] at hE
        refine q_iload_n (pc := 31) hX 0 rfl rfl dX2_isBetween_31 ?_
        refine q_iload_n (pc := 32) hX 2 rfl rfl dX2_isBetween_32 ?_
        refine q_icmp_ge (pc := 33) hX 40 (by decide) dX2_isBetween_33 (fun c => ?_) (fun c => ?_)
        · rw [if_pos c] at hE
          refine q_iconst (pc := 40) hX (0) rfl dX2_isBetween_40 ?_
          cases hE
          exact q_zret hX (Or.inl rfl) hR (by decide) (by decide) dX2_isBetween_41
        · rw [if_neg c] at hE
          refine q_iconst (pc := 36) hX (1) rfl dX2_isBetween_36 ?_
          refine q_goto (pc := 37) hX 41 (by decide) dX2_isBetween_37 ?_
          cases hE
          exact q_zret hX (Or.inr rfl) hR (by decide) (by decide) dX2_isBetween_41
  · rw [if_neg c] at hE
    refine q_iload_n (pc := 5) hX 1 rfl rfl dX2_isBetween_5 ?_
    refine q_iload_n (pc := 6) hX 0 rfl rfl dX2_isBetween_6 ?_
    refine q_icmp_gt (pc := 7) hX 19 (by decide) dX2_isBetween_7 (fun c => ?_) (fun c => ?_)
    · rw [if_pos c] at hE
      refine q_iconst (pc := 19) hX (0) rfl dX2_isBetween_19 ?_
      cases hE
      exact q_zret hX (Or.inl rfl) hR (by decide) (by decide) dX2_isBetween_20
    · rw [if_neg c] at hE
      refine q_iload_n (pc := 10) hX 0 rfl rfl dX2_isBetween_10 ?_
      refine q_iload_n (pc := 11) hX 2 rfl rfl dX2_isBetween_11 ?_
      refine q_icmp_ge (pc := 12) hX 19 (by decide) dX2_isBetween_12 (fun c => ?_) (fun c => ?_)
      · rw [if_pos c] at hE
        refine q_iconst (pc := 19) hX (0) rfl dX2_isBetween_19 ?_
        cases hE
        exact q_zret hX (Or.inl rfl) hR (by decide) (by decide) dX2_isBetween_20
      · rw [if_neg c] at hE
        refine q_iconst (pc := 15) hX (1) rfl dX2_isBetween_15 ?_
        refine q_goto (pc := 16) hX 20 (by decide) dX2_isBetween_16 ?_
        cases hE
        exact q_zret hX (Or.inr rfl) hR (by decide) (by decide) dX2_isBetween_20

set_option maxHeartbeats 4000000 in
theorem l_X2_greatestRate_5 {X : Cx} (hX : CxOK X RX2 cX2_greatestRate 6 1 24 0 0 (some .int)) (hE0 : CxE X []) {o : Nat → Nat} {hn : Nat} {M : Mem} {x1 : Int32} {x2 : Int32} {G : Mel} : ∀ (f : Nat) (y1 : Int32) (y2 : Int32) (p15 : Int32 × Int32), L_X2_greatestRate_5 M x1 x2 f y1 y2 = some p15 → WM X o hn M G 0 0 95 6 [(0, .ref (o 30)), (1, .int x1), (2, .int x2), (3, .int p15.1), (4, .int p15.2)] [] → WM X o hn M G 0 0 5 6 [(0, .ref (o 30)), (1, .int x1), (2, .int x2), (3, .int y1), (4, .int y2)] [] := by
  intro f
  induction f with
  | zero => intro y1 y2 p15 hE; simp [L_X2_greatestRate_5] at hE
  | succ f ih =>
    intro y1 y2 p15 hE hx
    rw [L_X2_greatestRate_5] at hE
    refine q_iload (pc := 5) hX 4 rfl dX2_greatestRate_5 ?_
    refine q_aload_n (pc := 7) hX 0 rfl rfl dX2_greatestRate_7 ?_
    refine q_get (pc := 8) (id := 30) (ci := 2) (N := 1) (T := TX2) (C := RX2) hX 0 (lt46 (by decide)) rfl rfl in_X2 (by decide) (Or.inl kw_30) rfl dX2_greatestRate_8 ?_
    obtain ⟨r3, hr3, hE⟩ := ob_bind hE
    refine q_callV (pc := 11) (id := 31) (As := []) (rest := [.int y2]) (rv := some (.int r3)) (st' := [.int r3, .int y2]) hX (c_X4_size (tb_31 hn) hr3) (vl_X2_20) (lt46 (by decide)) (ob_T (tb_31 hn).1 _ _) rfl rfl pd_yX4_size rfl ⟨by decide, by decide⟩ ⟨Nat.le_of_ble_eq_true rfl, Nat.le_of_ble_eq_true rfl⟩ rfl (Nat.le_of_ble_eq_true rfl) rfl dX2_greatestRate_11 ?_
    refine q_icmp_ge (pc := 14) hX 95 (by decide) dX2_greatestRate_14 (fun c => ?_) (fun c => ?_)
    · rw [if_pos c] at hE
      cases hE
      exact hx
    · rw [if_neg c] at hE
      refine q_aload_n (pc := 17) hX 0 rfl rfl dX2_greatestRate_17 ?_
      refine q_get (pc := 18) (id := 30) (ci := 2) (N := 1) (T := TX2) (C := RX2) hX 0 (lt46 (by decide)) rfl rfl in_X2 (by decide) (Or.inl kw_30) rfl dX2_greatestRate_18 ?_
      refine q_iload (pc := 21) hX 4 rfl dX2_greatestRate_21 ?_
      refine q_iconst (pc := 23) hX (0) rfl dX2_greatestRate_23 ?_
      obtain ⟨r4, hr4, hE⟩ := ob_bind hE
      refine q_callV (pc := 24) (id := 31) (As := [.int y2, .int 0]) (rest := []) (rv := some (.int r4)) (st' := [.int r4]) hX (c_X4_get (tb_31 hn) hr4) (vl_X2_32) (lt46 (by decide)) (ob_T (tb_31 hn).1 _ _) rfl rfl pd_yX4_get rfl ⟨by decide, by decide⟩ ⟨Nat.le_of_ble_eq_true rfl, Nat.le_of_ble_eq_true rfl⟩ rfl (Nat.le_of_ble_eq_true rfl) rfl dX2_greatestRate_24 ?_
      refine q_iload_n (pc := 27) hX 1 rfl rfl dX2_greatestRate_27 ?_
      refine q_ishr (pc := 28) hX dX2_greatestRate_28 ?_
      refine q_iconst (pc := 29) hX (1) rfl dX2_greatestRate_29 ?_
      refine q_iand (pc := 30) hX dX2_greatestRate_30 ?_
      refine q_iconst (pc := 31) hX (1) rfl dX2_greatestRate_31 ?_
      obtain ⟨p6, hp6, hE⟩ := bnd_ob hE
      suffices Jp6 : WM X o hn M G 0 0 40 6 [(0, .ref (o 30)), (1, .int x1), (2, .int x2), (3, .int y1), (4, .int y2)] [.int p6] by
        refine q_icmp_ne (pc := 32) hX 39 (by decide) dX2_greatestRate_32 (fun c => ?_) (fun c => ?_)
        · rw [if_neg c] at hp6
          refine q_iconst (pc := 39) hX (0) rfl dX2_greatestRate_39 ?_
          cases hp6
          exact Jp6
        · rw [if_pos c] at hp6
          refine q_iconst (pc := 35) hX (1) rfl dX2_greatestRate_35 ?_
          refine q_goto (pc := 36) hX 40 (by decide) dX2_greatestRate_36 ?_
          cases hp6
          exact Jp6
      refine q_istore (pc := 40) (lo' := [(0, .ref (o 30)), (1, .int x1), (2, .int x2), (3, .int y1), (4, .int y2), (5, .int p6)]) hX [1, 2, 3, 4, 5, 0] (by decide) rfl dX2_greatestRate_40 ?_
      refine q_iload (pc := 42) hX 5 rfl dX2_greatestRate_42 ?_
      obtain ⟨p13, hp13, hE⟩ := ob_bind hE
      suffices Jp13 : WM X o hn M G 0 0 89 6 [(0, .ref (o 30)), (1, .int x1), (2, .int x2), (3, .int p13), (4, .int y2)] [] by
        refine q_if_eq (pc := 44) hX 89 (by decide) dX2_greatestRate_44 (fun c => ?_) (fun c => ?_)
        · rw [if_pos c] at hp13
          refine q_lo [0, 1, 2, 3, 4] rfl ?_
          cases hp13
          exact Jp13
        · rw [if_neg c] at hp13
          refine q_iload_n (pc := 47) hX 2 rfl rfl dX2_greatestRate_47 ?_
          refine q_aload_n (pc := 48) hX 0 rfl rfl dX2_greatestRate_48 ?_
          refine q_get (pc := 49) (id := 30) (ci := 2) (N := 1) (T := TX2) (C := RX2) hX 0 (lt46 (by decide)) rfl rfl in_X2 (by decide) (Or.inl kw_30) rfl dX2_greatestRate_49 ?_
          refine q_iload (pc := 52) hX 4 rfl dX2_greatestRate_52 ?_
          refine q_iconst (pc := 54) hX (1) rfl dX2_greatestRate_54 ?_
          obtain ⟨r8, hr8, hp13⟩ := ob_bind hp13
          refine q_callV (pc := 55) (id := 31) (As := [.int y2, .int 1]) (rest := [.int x2]) (rv := some (.int r8)) (st' := [.int r8, .int x2]) hX (c_X4_get (tb_31 hn) hr8) (vl_X2_32) (lt46 (by decide)) (ob_T (tb_31 hn).1 _ _) rfl rfl pd_yX4_get rfl ⟨by decide, by decide⟩ ⟨Nat.le_of_ble_eq_true rfl, Nat.le_of_ble_eq_true rfl⟩ rfl (Nat.le_of_ble_eq_true rfl) rfl dX2_greatestRate_55 ?_
          refine q_aload_n (pc := 58) hX 0 rfl rfl dX2_greatestRate_58 ?_
          refine q_get (pc := 59) (id := 30) (ci := 2) (N := 1) (T := TX2) (C := RX2) hX 0 (lt46 (by decide)) rfl rfl in_X2 (by decide) (Or.inl kw_30) rfl dX2_greatestRate_59 ?_
          refine q_iload (pc := 62) hX 4 rfl dX2_greatestRate_62 ?_
          refine q_iconst (pc := 64) hX (2) rfl dX2_greatestRate_64 ?_
          obtain ⟨r9, hr9, hp13⟩ := ob_bind hp13
          refine q_callV (pc := 65) (id := 31) (As := [.int y2, .int 2]) (rest := [.int r8, .int x2]) (rv := some (.int r9)) (st' := [.int r9, .int r8, .int x2]) hX (c_X4_get (tb_31 hn) hr9) (vl_X2_32) (lt46 (by decide)) (ob_T (tb_31 hn).1 _ _) rfl rfl pd_yX4_get rfl ⟨by decide, by decide⟩ ⟨Nat.le_of_ble_eq_true rfl, Nat.le_of_ble_eq_true rfl⟩ rfl (Nat.le_of_ble_eq_true rfl) rfl dX2_greatestRate_65 ?_
          obtain ⟨r10, hr10, hp13⟩ := ob_bind hp13
          refine q_callS (pc := 68) (As := [.int x2, .int r8, .int r9]) (rest := []) (rv := some (.int r10)) (st' := [.int r10]) hX (c_X2_isBetween hr10) (sl_X2_51) pd_yX2_isBetween rfl ⟨by decide, by decide⟩ ⟨Nat.le_of_ble_eq_true rfl, Nat.le_of_ble_eq_true rfl⟩ rfl (Nat.le_of_ble_eq_true rfl) rfl dX2_greatestRate_68 ?_
          refine q_if_eq (pc := 71) hX 89 (by decide) dX2_greatestRate_71 (fun c => ?_) (fun c => ?_)
          · rw [if_pos c] at hp13
            refine q_lo [0, 1, 2, 3, 4] rfl ?_
            cases hp13
            exact Jp13
          · rw [if_neg c] at hp13
            refine q_iload_n (pc := 74) hX 3 rfl rfl dX2_greatestRate_74 ?_
            refine q_aload_n (pc := 75) hX 0 rfl rfl dX2_greatestRate_75 ?_
            refine q_get (pc := 76) (id := 30) (ci := 2) (N := 1) (T := TX2) (C := RX2) hX 0 (lt46 (by decide)) rfl rfl in_X2 (by decide) (Or.inl kw_30) rfl dX2_greatestRate_76 ?_
            refine q_iload (pc := 79) hX 4 rfl dX2_greatestRate_79 ?_
            refine q_iconst (pc := 81) hX (3) rfl dX2_greatestRate_81 ?_
            obtain ⟨r11, hr11, hp13⟩ := ob_bind hp13
            refine q_callV (pc := 82) (id := 31) (As := [.int y2, .int 3]) (rest := [.int y1]) (rv := some (.int r11)) (st' := [.int r11, .int y1]) hX (c_X4_get (tb_31 hn) hr11) (vl_X2_32) (lt46 (by decide)) (ob_T (tb_31 hn).1 _ _) rfl rfl pd_yX4_get rfl ⟨by decide, by decide⟩ ⟨Nat.le_of_ble_eq_true rfl, Nat.le_of_ble_eq_true rfl⟩ rfl (Nat.le_of_ble_eq_true rfl) rfl dX2_greatestRate_82 ?_
            refine r_max (pc := 85) hX kw_300 kw_200 kw_192 kw_201 (by decide) (Nat.le_of_ble_eq_true rfl) (Nat.le_of_ble_eq_true rfl) (Nat.le_of_ble_eq_true rfl) dX2_greatestRate_85 ?_
            refine q_nm (fun z12 hz12 => ?_)
            have hp13 := bnd_nm hz12 hp13
            refine q_istore_n (pc := 88) (lo' := [(0, .ref (o 30)), (1, .int x1), (2, .int x2), (3, .int z12), (4, .int y2), (5, .int p6)]) hX [1, 2, 3, 0, 4, 5] rfl (by decide) rfl dX2_greatestRate_88 ?_
            refine q_lo [0, 1, 2, 3, 4] rfl ?_
            cases hp13
            exact Jp13
      obtain ⟨z14, hz14⟩ : ∃ z : Int32, z = y2 + 1 := ⟨_, rfl⟩
      have hE := bnd_nm hz14 hE
      refine q_iinc (pc := 89) (lo' := [(0, .ref (o 30)), (1, .int x1), (2, .int x2), (3, .int p13), (4, .int z14)]) hX 4 z14 [1, 2, 3, 4, 0] rfl (by rw [hz14]; rfl) (by decide) rfl dX2_greatestRate_89 ?_
      refine q_goto (pc := 92) hX 5 (by decide) dX2_greatestRate_92 ?_
      exact ih _ _ p15 hE hx

set_option maxHeartbeats 4000000 in
theorem c_X2_greatestRate {Y : Lx} {o : Nat → Nat} {hn : Nat} {M : Mem} {G : Mel} {x1 : Int32} {x2 : Int32} {rr : Int32} (hE : s_X2_greatestRate M x1 x2 = some (rr)) : MI Y yX2_greatestRate cX2_greatestRate 6 (some .int) 1 24 0 0 [.ref (o 30), .int x1, .int x2] o hn M G (.inl (some (.int rr))) M G := by
  refine MI.of (by decide +kernel) (Nat.le_of_ble_eq_true rfl) (fun X hY hX hE0 hR => ?_)
  change CxOK X RX2 cX2_greatestRate 6 1 24 0 0 (some .int) at hX
  show WM X o hn M G 0 0 0 6 [(0, .ref (o 30)), (1, .int x1), (2, .int x2)] []
  unfold s_X2_greatestRate at hE
  refine q_iconst (pc := 0) hX (0) rfl dX2_greatestRate_0 ?_
  refine q_istore_n (pc := 1) (lo' := [(0, .ref (o 30)), (1, .int x1), (2, .int x2), (3, .int 0)]) hX [1, 2, 3, 0] rfl (by decide) rfl dX2_greatestRate_1 ?_
  refine q_iconst (pc := 2) hX (0) rfl dX2_greatestRate_2 ?_
  refine q_istore (pc := 3) (lo' := [(0, .ref (o 30)), (1, .int x1), (2, .int x2), (3, .int 0), (4, .int 0)]) hX [1, 2, 3, 4, 0] (by decide) rfl dX2_greatestRate_3 ?_
  obtain ⟨p15, hp15, hE⟩ := ob_bind hE
  refine l_X2_greatestRate_5 hX hE0 FU _ _ p15 hp15 ?_
  refine q_iload_n (pc := 95) hX 3 rfl rfl dX2_greatestRate_95 ?_
  cases hE
  exact q_iret hX hR (by decide) (by decide) dX2_greatestRate_96

set_option maxHeartbeats 4000000 in
theorem l_X2_sumOver_8 {X : Cx} (hX : CxOK X RX2 cX2_sumOver 8 2 49 0 0 (some .int)) (hE0 : CxE X []) {o : Nat → Nat} {hn : Nat} {M : Mem} {x2 : Int32} {G : Mel} : ∀ (f : Nat) (y1 : Int32) (y2 : Int32) (y3 : Int32) (p10 : Int32 × Int32 × Int32), L_X2_sumOver_8 M x2 f y1 y2 y3 = some p10 → WM X o hn M G 0 0 84 8 [(0, .ref (o 30)), (2, .int x2), (3, .int p10.1), (4, .int p10.2.1), (5, .int p10.2.2)] [] → WM X o hn M G 0 0 8 8 [(0, .ref (o 30)), (2, .int x2), (3, .int y1), (4, .int y2), (5, .int y3)] [] := by
  intro f
  induction f with
  | zero => intro y1 y2 y3 p10 hE; simp [L_X2_sumOver_8] at hE
  | succ f ih =>
    intro y1 y2 y3 p10 hE hx
    rw [L_X2_sumOver_8] at hE
    refine q_iload (pc := 8) hX 4 rfl dX2_sumOver_8 ?_
    refine q_sipush (pc := 10) hX (1440) (by decide) dX2_sumOver_10 ?_
    refine q_icmp_ge (pc := 13) hX 84 (by decide) dX2_sumOver_13 (fun c => ?_) (fun c => ?_)
    · rw [if_pos c] at hE
      cases hE
      exact hx
    · rw [if_neg c] at hE
      refine q_iload (pc := 16) hX 3 rfl dX2_sumOver_16 ?_
      refine q_iload_n (pc := 18) hX 1 rfl rfl dX2_sumOver_18 ?_
      refine q_icmp_ge (pc := 19) hX 84 (by decide) dX2_sumOver_19 (fun c => ?_) (fun c => ?_)
      · rw [if_pos c] at hE
        cases hE
        exact hx
      · rw [if_neg c] at hE
        refine q_iload (pc := 22) hX 3 rfl dX2_sumOver_22 ?_
        refine q_sipush (pc := 24) hX (1440) (by decide) dX2_sumOver_24 ?_
        refine q_idiv (pc := 27) hX (by decide) dX2_sumOver_27 ?_
        refine q_nm (fun z4 hz4 => ?_)
        have hE := bnd_nm hz4 hE
        refine q_istore (pc := 28) (lo' := [(0, .ref (o 30)), (2, .int x2), (3, .int y1), (4, .int y2), (5, .int y3), (6, .int z4)]) hX [1, 2, 3, 4, 5, 0] (by decide) rfl dX2_sumOver_28 ?_
        refine q_iload_n (pc := 30) hX 1 rfl rfl dX2_sumOver_30 ?_
        refine q_iload (pc := 31) hX 5 rfl dX2_sumOver_31 ?_
        refine q_sipush (pc := 33) hX (1440) (by decide) dX2_sumOver_33 ?_
        refine q_imul (pc := 36) hX dX2_sumOver_36 ?_
        refine q_aload_n (pc := 37) hX 0 rfl rfl dX2_sumOver_37 ?_
        refine q_iload (pc := 38) hX 3 rfl dX2_sumOver_38 ?_
        refine q_sipush (pc := 40) hX (1440) (by decide) dX2_sumOver_40 ?_
        refine q_irem (pc := 43) hX (by decide) dX2_sumOver_43 ?_
        obtain ⟨r5, hr5, hE⟩ := ob_bind hE
        refine q_callV (pc := 44) (id := 30) (As := [.int (y2 - y2 / 1440 * 1440)]) (rest := [.int (z4 * 1440), .int x2]) (rv := some (.int r5)) (st' := [.int r5, .int (z4 * 1440), .int x2]) hX (c_X2_nextChange hr5) (vl_X2_39) (lt46 (by decide)) rfl rfl rfl pd_yX2_nextChange rfl ⟨by decide, by decide⟩ ⟨Nat.le_of_ble_eq_true rfl, Nat.le_of_ble_eq_true rfl⟩ rfl (Nat.le_of_ble_eq_true rfl) rfl dX2_sumOver_44 ?_
        refine q_iadd (pc := 47) hX dX2_sumOver_47 ?_
        refine r_min (pc := 48) hX kw_291 kw_191 kw_192 kw_193 (by decide) (Nat.le_of_ble_eq_true rfl) (Nat.le_of_ble_eq_true rfl) (Nat.le_of_ble_eq_true rfl) dX2_sumOver_48 ?_
        refine q_nm (fun z6 hz6 => ?_)
        have hE := bnd_nm hz6 hE
        refine q_istore (pc := 51) (lo' := [(0, .ref (o 30)), (2, .int x2), (3, .int y1), (4, .int y2), (5, .int y3), (6, .int z4), (7, .int z6)]) hX [1, 2, 3, 4, 5, 6, 0] (by decide) rfl dX2_sumOver_51 ?_
        refine q_iload_n (pc := 53) hX 2 rfl rfl dX2_sumOver_53 ?_
        refine q_aload_n (pc := 54) hX 0 rfl rfl dX2_sumOver_54 ?_
        refine q_iload (pc := 55) hX 5 rfl dX2_sumOver_55 ?_
        refine q_iload (pc := 57) hX 3 rfl dX2_sumOver_57 ?_
        refine q_sipush (pc := 59) hX (1440) (by decide) dX2_sumOver_59 ?_
        refine q_irem (pc := 62) hX (by decide) dX2_sumOver_62 ?_
        obtain ⟨r7, hr7, hE⟩ := ob_bind hE
        refine q_callV (pc := 63) (id := 30) (As := [.int z4, .int (y2 - y2 / 1440 * 1440)]) (rest := [.int y1]) (rv := some (.int r7)) (st' := [.int r7, .int y1]) hX (c_X2_greatestRate hr7) (vl_X2_48) (lt46 (by decide)) rfl rfl rfl pd_yX2_greatestRate rfl ⟨by decide, by decide⟩ ⟨Nat.le_of_ble_eq_true rfl, Nat.le_of_ble_eq_true rfl⟩ rfl (Nat.le_of_ble_eq_true rfl) rfl dX2_sumOver_63 ?_
        refine q_iload (pc := 66) hX 6 rfl dX2_sumOver_66 ?_
        refine q_iload (pc := 68) hX 3 rfl dX2_sumOver_68 ?_
        refine q_isub (pc := 70) hX dX2_sumOver_70 ?_
        refine q_imul (pc := 71) hX dX2_sumOver_71 ?_
        refine q_iadd (pc := 72) hX dX2_sumOver_72 ?_
        refine q_nm (fun z8 hz8 => ?_)
        have hE := bnd_nm hz8 hE
        refine q_istore_n (pc := 73) (lo' := [(0, .ref (o 30)), (2, .int x2), (3, .int z8), (4, .int y2), (5, .int y3), (6, .int z4), (7, .int z6)]) hX [1, 2, 0, 3, 4, 5, 6] rfl (by decide) rfl dX2_sumOver_73 ?_
        refine q_iload (pc := 74) hX 6 rfl dX2_sumOver_74 ?_
        refine q_istore (pc := 76) (lo' := [(0, .ref (o 30)), (2, .int x2), (3, .int z8), (4, .int z6), (5, .int y3), (6, .int z4), (7, .int z6)]) hX [1, 2, 3, 0, 4, 5, 6] (by decide) rfl dX2_sumOver_76 ?_
        obtain ⟨z9, hz9⟩ : ∃ z : Int32, z = y3 + 1 := ⟨_, rfl⟩
        have hE := bnd_nm hz9 hE
        refine q_iinc (pc := 78) (lo' := [(0, .ref (o 30)), (2, .int x2), (3, .int z8), (4, .int z6), (5, .int z9), (6, .int z4), (7, .int z6)]) hX 4 z9 [1, 2, 3, 4, 0, 5, 6] rfl (by rw [hz9]; rfl) (by decide) rfl dX2_sumOver_78 ?_
        refine q_goto (pc := 81) hX 8 (by decide) dX2_sumOver_81 ?_
        refine q_lo [0, 1, 2, 3, 4] rfl ?_
        exact ih _ _ _ p10 hE hx

set_option maxHeartbeats 4000000 in
theorem c_X2_sumOver {Y : Lx} {o : Nat → Nat} {hn : Nat} {M : Mem} {G : Mel} {x1 : Int32} {x2 : Int32} {rr : Int32} (hE : s_X2_sumOver M x1 x2 = some (rr)) : MI Y yX2_sumOver cX2_sumOver 8 (some .int) 2 49 0 0 [.ref (o 30), .int x1, .int x2] o hn M G (.inl (some (.int rr))) M G := by
  refine MI.of (by decide +kernel) (Nat.le_of_ble_eq_true rfl) (fun X hY hX hE0 hR => ?_)
  change CxOK X RX2 cX2_sumOver 8 2 49 0 0 (some .int) at hX
  show WM X o hn M G 0 0 0 8 [(0, .ref (o 30)), (1, .int x1), (2, .int x2)] []
  unfold s_X2_sumOver at hE
  refine q_iconst (pc := 0) hX (0) rfl dX2_sumOver_0 ?_
  refine q_istore_n (pc := 1) (lo' := [(0, .ref (o 30)), (1, .int x1), (2, .int x2), (3, .int 0)]) hX [1, 2, 3, 0] rfl (by decide) rfl dX2_sumOver_1 ?_
  refine q_iload_n (pc := 2) hX 1 rfl rfl dX2_sumOver_2 ?_
  refine q_istore (pc := 3) (lo' := [(0, .ref (o 30)), (1, .int x1), (2, .int x2), (3, .int 0), (4, .int x1)]) hX [1, 2, 3, 4, 0] (by decide) rfl dX2_sumOver_3 ?_
  refine q_iconst (pc := 5) hX (0) rfl dX2_sumOver_5 ?_
  refine q_istore (pc := 6) (lo' := [(0, .ref (o 30)), (1, .int x1), (2, .int x2), (3, .int 0), (4, .int x1), (5, .int 0)]) hX [1, 2, 3, 4, 5, 0] (by decide) rfl dX2_sumOver_6 ?_
  obtain ⟨p10, hp10, hE⟩ := ob_bind hE
  refine q_lo [0, 2, 3, 4, 5] rfl ?_
  refine l_X2_sumOver_8 hX hE0 FU _ _ _ p10 hp10 ?_
  refine q_iload_n (pc := 84) hX 2 rfl rfl dX2_sumOver_84 ?_
  cases hE
  exact q_iret hX hR (by decide) (by decide) dX2_sumOver_85

set_option maxHeartbeats 4000000 in
theorem l_X2_payFor_4 {X : Cx} (hX : CxOK X RX2 cX2_payFor 4 3 76 0 0 (some .int)) (hE0 : CxE X []) {o : Nat → Nat} {hn : Nat} {M : Mem} {t1 : Nat} {G : Mel} (ht1 : tb hn t1) : ∀ (f : Nat) (y1 : Int32) (y2 : Int32) (p9 : Int32 × Int32), L_X2_payFor_4 M t1 f y1 y2 = some p9 → WM X o hn M G 0 0 37 4 [(0, .ref (o 30)), (1, .ref (o t1)), (2, .int p9.1), (3, .int p9.2)] [] → WM X o hn M G 0 0 4 4 [(0, .ref (o 30)), (1, .ref (o t1)), (2, .int y1), (3, .int y2)] [] := by
  intro f
  induction f with
  | zero => intro y1 y2 p9 hE; simp [L_X2_payFor_4] at hE
  | succ f ih =>
    intro y1 y2 p9 hE hx
    rw [L_X2_payFor_4] at hE
    refine q_iload_n (pc := 4) hX 3 rfl rfl dX2_payFor_4 ?_
    refine q_aload_n (pc := 5) hX 1 rfl rfl dX2_payFor_5 ?_
    obtain ⟨r3, hr3, hE⟩ := ob_bind hE
    refine q_callV (pc := 6) (id := t1) (As := []) (rest := [.int y2]) (rv := some (.int r3)) (st' := [.int r3, .int y2]) hX (c_X4_size ht1 hr3) (vl_X2_20) (tb_lt ht1) (ob_T ht1.1 _ _) rfl rfl pd_yX4_size rfl ⟨by decide, by decide⟩ ⟨Nat.le_of_ble_eq_true rfl, Nat.le_of_ble_eq_true rfl⟩ rfl (Nat.le_of_ble_eq_true rfl) rfl dX2_payFor_6 ?_
    refine q_icmp_ge (pc := 9) hX 37 (by decide) dX2_payFor_9 (fun c => ?_) (fun c => ?_)
    · rw [if_pos c] at hE
      cases hE
      exact hx
    · rw [if_neg c] at hE
      refine q_iload_n (pc := 12) hX 2 rfl rfl dX2_payFor_12 ?_
      refine q_aload_n (pc := 13) hX 0 rfl rfl dX2_payFor_13 ?_
      refine q_aload_n (pc := 14) hX 1 rfl rfl dX2_payFor_14 ?_
      refine q_iload_n (pc := 15) hX 3 rfl rfl dX2_payFor_15 ?_
      refine q_iconst (pc := 16) hX (0) rfl dX2_payFor_16 ?_
      obtain ⟨r4, hr4, hE⟩ := ob_bind hE
      refine q_callV (pc := 17) (id := t1) (As := [.int y2, .int 0]) (rest := [.ref (o 30), .int y1]) (rv := some (.int r4)) (st' := [.int r4, .ref (o 30), .int y1]) hX (c_X4_get ht1 hr4) (vl_X2_32) (tb_lt ht1) (ob_T ht1.1 _ _) rfl rfl pd_yX4_get rfl ⟨by decide, by decide⟩ ⟨Nat.le_of_ble_eq_true rfl, Nat.le_of_ble_eq_true rfl⟩ rfl (Nat.le_of_ble_eq_true rfl) rfl dX2_payFor_17 ?_
      refine q_aload_n (pc := 20) hX 1 rfl rfl dX2_payFor_20 ?_
      refine q_iload_n (pc := 21) hX 3 rfl rfl dX2_payFor_21 ?_
      refine q_iconst (pc := 22) hX (1) rfl dX2_payFor_22 ?_
      obtain ⟨r5, hr5, hE⟩ := ob_bind hE
      refine q_callV (pc := 23) (id := t1) (As := [.int y2, .int 1]) (rest := [.int r4, .ref (o 30), .int y1]) (rv := some (.int r5)) (st' := [.int r5, .int r4, .ref (o 30), .int y1]) hX (c_X4_get ht1 hr5) (vl_X2_32) (tb_lt ht1) (ob_T ht1.1 _ _) rfl rfl pd_yX4_get rfl ⟨by decide, by decide⟩ ⟨Nat.le_of_ble_eq_true rfl, Nat.le_of_ble_eq_true rfl⟩ rfl (Nat.le_of_ble_eq_true rfl) rfl dX2_payFor_23 ?_
      obtain ⟨r6, hr6, hE⟩ := ob_bind hE
      refine q_callV (pc := 26) (id := 30) (As := [.int r4, .int r5]) (rest := [.int y1]) (rv := some (.int r6)) (st' := [.int r6, .int y1]) hX (c_X2_sumOver hr6) (vl_X2_36) (lt46 (by decide)) rfl rfl rfl pd_yX2_sumOver rfl ⟨by decide, by decide⟩ ⟨Nat.le_of_ble_eq_true rfl, Nat.le_of_ble_eq_true rfl⟩ rfl (Nat.le_of_ble_eq_true rfl) rfl dX2_payFor_26 ?_
      refine q_iadd (pc := 29) hX dX2_payFor_29 ?_
      refine q_nm (fun z7 hz7 => ?_)
      have hE := bnd_nm hz7 hE
      refine q_istore_n (pc := 30) (lo' := [(0, .ref (o 30)), (1, .ref (o t1)), (2, .int z7), (3, .int y2)]) hX [1, 2, 0, 3] rfl (by decide) rfl dX2_payFor_30 ?_
      obtain ⟨z8, hz8⟩ : ∃ z : Int32, z = y2 + 1 := ⟨_, rfl⟩
      have hE := bnd_nm hz8 hE
      refine q_iinc (pc := 31) (lo' := [(0, .ref (o 30)), (1, .ref (o t1)), (2, .int z7), (3, .int z8)]) hX 3 z8 [1, 2, 3, 0] rfl (by rw [hz8]; rfl) (by decide) rfl dX2_payFor_31 ?_
      refine q_goto (pc := 34) hX 4 (by decide) dX2_payFor_34 ?_
      exact ih _ _ p9 hE hx

set_option maxHeartbeats 4000000 in
theorem c_X2_payFor {Y : Lx} {o : Nat → Nat} {hn : Nat} {M : Mem} {G : Mel} {t1 : Nat} {rr : Int32} (ht1 : tb hn t1) (hE : s_X2_payFor M t1 = some (rr)) : MI Y yX2_payFor cX2_payFor 4 (some .int) 3 76 0 0 [.ref (o 30), .ref (o t1)] o hn M G (.inl (some (.int rr))) M G := by
  refine MI.of (by decide +kernel) (Nat.le_of_ble_eq_true rfl) (fun X hY hX hE0 hR => ?_)
  change CxOK X RX2 cX2_payFor 4 3 76 0 0 (some .int) at hX
  show WM X o hn M G 0 0 0 4 [(0, .ref (o 30)), (1, .ref (o t1))] []
  unfold s_X2_payFor at hE
  refine q_iconst (pc := 0) hX (0) rfl dX2_payFor_0 ?_
  refine q_istore_n (pc := 1) (lo' := [(0, .ref (o 30)), (1, .ref (o t1)), (2, .int 0)]) hX [1, 2, 0] rfl (by decide) rfl dX2_payFor_1 ?_
  refine q_iconst (pc := 2) hX (0) rfl dX2_payFor_2 ?_
  refine q_istore_n (pc := 3) (lo' := [(0, .ref (o 30)), (1, .ref (o t1)), (2, .int 0), (3, .int 0)]) hX [1, 2, 3, 0] rfl (by decide) rfl dX2_payFor_3 ?_
  obtain ⟨p9, hp9, hE⟩ := ob_bind hE
  refine l_X2_payFor_4 hX hE0 ht1 FU _ _ p9 hp9 ?_
  refine q_iload_n (pc := 37) hX 2 rfl rfl dX2_payFor_37 ?_
  refine q_bipush (pc := 38) hX (30) (by decide) dX2_payFor_38 ?_
  refine q_iadd (pc := 40) hX dX2_payFor_40 ?_
  refine q_bipush (pc := 41) hX (60) (by decide) dX2_payFor_41 ?_
  refine q_idiv (pc := 43) hX (by decide) dX2_payFor_43 ?_
  cases hE
  exact q_iret hX hR (by decide) (by decide) dX2_payFor_44

set_option maxHeartbeats 4000000 in
theorem c_L_setWage {Y : Lx} {o : Nat → Nat} {hn : Nat} {M : Mem} {G : Mel} {x1 : Int32} {x2 : Int32} {rr : Int32} {Mr : Mem} {Gr : Mel} (hE : s_L_setWage M G hn x1 x2 = some (rr, Mr, Gr)) : MIW Y yL_setWage cL_setWage 5 (some .int) [(0, 10, 13, 21), (0, 10, 17, 13)] 8 136 2 12 [.ref (o 28), .int x1, .int x2, .ref (o 0)] o hn M G (.inl (some (.int rr))) Mr Gr := by
  refine MIW.of (by decide +kernel) (Nat.le_of_ble_eq_true rfl) (fun X hY hX hE0 hR => ?_)
  change CxOK X RL cL_setWage 5 8 136 2 12 (some .int) at hX
  show WM X o hn M G 0 0 0 5 [(0, .ref (o 28)), (1, .int x1), (2, .int x2), (3, .ref (o 0))] []
  unfold s_L_setWage at hE
  refine q_aload_n (pc := 0) hX 3 rfl rfl dL_setWage_0 ?_
  refine q_iconst (pc := 1) hX (0) rfl dL_setWage_1 ?_
  refine q_aload_n (pc := 2) hX 0 rfl rfl dL_setWage_2 ?_
  refine q_iload_n (pc := 3) hX 1 rfl rfl dL_setWage_3 ?_
  refine q_iload_n (pc := 4) hX 2 rfl rfl dL_setWage_4 ?_
  obtain ⟨r1, hr1, hE⟩ := ob_bind hE
  by_cases hkr1 : r1.1 = 0
  rotate_left
  · rw [if_pos hkr1] at hE
    by_cases hkr1_3 : r1.1 = 3
    · rw [if_pos hkr1_3] at hE
      refine q_callVx (pc := 5) (id := 28) (As := [.int x1, .int x2]) (rest := [.int 0, .ref (o 0)]) hX (MI_x3 hkr1_3 (c_X6_setWage hr1)) (vl_L_17) (lt46 (by decide)) rfl rfl rfl pd_yX6_setWage rfl ⟨by decide, by decide⟩ ⟨by decide, by decide⟩ rfl (Nat.le_of_ble_eq_true rfl) dL_setWage_5 ?_
      refine q_catch hX hE0 [] ⟨0, 10, 13, 21⟩ [⟨0, 10, 17, 13⟩] rfl (fun z hz => nomatch hz) (by decide) (by decide) kw_155 cast_3 (fun q2 => ?_)
      refine q_astore (pc := 13) (lo' := [(0, .ref (o 28)), (1, .int x1), (2, .int x2), (3, .ref (o 0)), (4, .ref q2)]) hX [1, 2, 3, 4, 0] (by decide) rfl dL_setWage_13 ?_
      refine q_iconst (pc := 15) hX (1) rfl dL_setWage_15 ?_
      cases hE
      exact q_iret hX hR (by decide) (by decide) dL_setWage_16
    rw [if_neg hkr1_3] at hE
    by_cases hkr1_1 : r1.1 = 1
    · rw [if_pos hkr1_1] at hE
      refine q_callVx (pc := 5) (id := 28) (As := [.int x1, .int x2]) (rest := [.int 0, .ref (o 0)]) hX (MI_x1 hkr1_1 (c_X6_setWage hr1)) (vl_L_17) (lt46 (by decide)) rfl rfl rfl pd_yX6_setWage rfl ⟨by decide, by decide⟩ ⟨by decide, by decide⟩ rfl (Nat.le_of_ble_eq_true rfl) dL_setWage_5 ?_
      refine q_catch hX hE0 [⟨0, 10, 13, 21⟩] ⟨0, 10, 17, 13⟩ [] rfl (fun z hz => (List.mem_cons.mp hz).elim (fun e => by subst e; exact ⟨by decide, eIOB, kw_155, by decide +kernel⟩) (fun hz => nomatch hz)) (by decide) (by decide) kw_111 cast_1 (fun q3 => ?_)
      refine q_astore (pc := 17) (lo' := [(0, .ref (o 28)), (1, .int x1), (2, .int x2), (3, .ref (o 0)), (4, .ref q3)]) hX [1, 2, 3, 4, 0] (by decide) rfl dL_setWage_17 ?_
      refine q_iconst (pc := 19) hX (2) rfl dL_setWage_19 ?_
      cases hE
      exact q_iret hX hR (by decide) (by decide) dL_setWage_20
    rw [if_neg hkr1_1] at hE
    cases hE
  rw [if_neg (fun h => h hkr1)] at hE
  refine q_callV (pc := 5) (id := 28) (As := [.int x1, .int x2]) (rest := [.int 0, .ref (o 0)]) (rv := some (.int r1.2.1)) (st' := [.int r1.2.1, .int 0, .ref (o 0)]) hX (MI_0 hkr1 (c_X6_setWage hr1)) (vl_L_17) (lt46 (by decide)) rfl rfl rfl pd_yX6_setWage rfl ⟨by decide, by decide⟩ ⟨by decide, by decide⟩ rfl (Nat.le_of_ble_eq_true rfl) rfl dL_setWage_5 ?_
  refine q_i2l (pc := 8) hX dL_setWage_8 ?_
  obtain ⟨G4, hG4, hE⟩ := ob_bind hE
  refine r_last (pc := 9) (id := 0) (n := 1) hX (lt46 (by decide)) (fun _ _ => rfl) hG4 dL_setWage_9 ?_
  refine q_goto (pc := 10) hX 21 (by decide) dL_setWage_10 ?_
  refine q_iconst (pc := 21) hX (0) rfl dL_setWage_21 ?_
  cases hE
  exact q_iret hX hR (by decide) (by decide) dL_setWage_22

set_option maxHeartbeats 4000000 in
theorem c_L_punch {Y : Lx} {o : Nat → Nat} {hn : Nat} {M : Mem} {G : Mel} {x1 : Int32} {x2 : Int32} {x3 : Int32} {rr : Int32} {Mr : Mem} {Gr : Mel} (hE : s_L_punch M G hn x1 x2 x3 = some (rr, Mr, Gr)) : MIW Y yL_punch cL_punch 6 (some .int) [(0, 12, 15, 21), (0, 12, 19, 13), (0, 12, 23, 15)] 8 137 4 24 [.ref (o 28), .int x1, .int x2, .int x3, .ref (o 0)] o hn M G (.inl (some (.int rr))) Mr Gr := by
  refine MIW.of (by decide +kernel) (Nat.le_of_ble_eq_true rfl) (fun X hY hX hE0 hR => ?_)
  change CxOK X RL cL_punch 6 8 137 4 24 (some .int) at hX
  show WM X o hn M G 0 0 0 6 [(0, .ref (o 28)), (1, .int x1), (2, .int x2), (3, .int x3), (4, .ref (o 0))] []
  unfold s_L_punch at hE
  refine q_aload (pc := 0) hX 4 rfl dL_punch_0 ?_
  refine q_iconst (pc := 2) hX (0) rfl dL_punch_2 ?_
  refine q_aload_n (pc := 3) hX 0 rfl rfl dL_punch_3 ?_
  refine q_iload_n (pc := 4) hX 1 rfl rfl dL_punch_4 ?_
  refine q_iload_n (pc := 5) hX 2 rfl rfl dL_punch_5 ?_
  refine q_iload_n (pc := 6) hX 3 rfl rfl dL_punch_6 ?_
  obtain ⟨r1, hr1, hE⟩ := ob_bind hE
  by_cases hkr1 : r1.1 = 0
  rotate_left
  · rw [if_pos hkr1] at hE
    by_cases hkr1_3 : r1.1 = 3
    · rw [if_pos hkr1_3] at hE
      refine q_callVx (pc := 7) (id := 28) (As := [.int x1, .int x2, .int x3]) (rest := [.int 0, .ref (o 0)]) hX (MI_x3 hkr1_3 (c_X6_punch hr1)) (vl_L_23) (lt46 (by decide)) rfl rfl rfl pd_yX6_punch rfl ⟨by decide, by decide⟩ ⟨by decide, by decide⟩ rfl (Nat.le_of_ble_eq_true rfl) dL_punch_7 ?_
      refine q_catch hX hE0 [] ⟨0, 12, 15, 21⟩ [⟨0, 12, 19, 13⟩, ⟨0, 12, 23, 15⟩] rfl (fun z hz => nomatch hz) (by decide) (by decide) kw_155 cast_3 (fun q2 => ?_)
      refine q_astore (pc := 15) (lo' := [(0, .ref (o 28)), (1, .int x1), (2, .int x2), (3, .int x3), (4, .ref (o 0)), (5, .ref q2)]) hX [1, 2, 3, 4, 5, 0] (by decide) rfl dL_punch_15 ?_
      refine q_iconst (pc := 17) hX (1) rfl dL_punch_17 ?_
      cases hE
      exact q_iret hX hR (by decide) (by decide) dL_punch_18
    rw [if_neg hkr1_3] at hE
    by_cases hkr1_1 : r1.1 = 1
    · rw [if_pos hkr1_1] at hE
      refine q_callVx (pc := 7) (id := 28) (As := [.int x1, .int x2, .int x3]) (rest := [.int 0, .ref (o 0)]) hX (MI_x1 hkr1_1 (c_X6_punch hr1)) (vl_L_23) (lt46 (by decide)) rfl rfl rfl pd_yX6_punch rfl ⟨by decide, by decide⟩ ⟨by decide, by decide⟩ rfl (Nat.le_of_ble_eq_true rfl) dL_punch_7 ?_
      refine q_catch hX hE0 [⟨0, 12, 15, 21⟩] ⟨0, 12, 19, 13⟩ [⟨0, 12, 23, 15⟩] rfl (fun z hz => (List.mem_cons.mp hz).elim (fun e => by subst e; exact ⟨by decide, eIOB, kw_155, by decide +kernel⟩) (fun hz => nomatch hz)) (by decide) (by decide) kw_111 cast_1 (fun q3 => ?_)
      refine q_astore (pc := 19) (lo' := [(0, .ref (o 28)), (1, .int x1), (2, .int x2), (3, .int x3), (4, .ref (o 0)), (5, .ref q3)]) hX [1, 2, 3, 4, 5, 0] (by decide) rfl dL_punch_19 ?_
      refine q_iconst (pc := 21) hX (2) rfl dL_punch_21 ?_
      cases hE
      exact q_iret hX hR (by decide) (by decide) dL_punch_22
    rw [if_neg hkr1_1] at hE
    by_cases hkr1_2 : r1.1 = 2
    · rw [if_pos hkr1_2] at hE
      refine q_callVx (pc := 7) (id := 28) (As := [.int x1, .int x2, .int x3]) (rest := [.int 0, .ref (o 0)]) hX (MI_x2 hkr1_2 (c_X6_punch hr1)) (vl_L_23) (lt46 (by decide)) rfl rfl rfl pd_yX6_punch rfl ⟨by decide, by decide⟩ ⟨by decide, by decide⟩ rfl (Nat.le_of_ble_eq_true rfl) dL_punch_7 ?_
      refine q_catch hX hE0 [⟨0, 12, 15, 21⟩, ⟨0, 12, 19, 13⟩] ⟨0, 12, 23, 15⟩ [] rfl (fun z hz => (List.mem_cons.mp hz).elim (fun e => by subst e; exact ⟨by decide, eIOB, kw_155, by decide +kernel⟩) (fun hz => (List.mem_cons.mp hz).elim (fun e => by subst e; exact ⟨by decide, eIAE, kw_111, by decide +kernel⟩) (fun hz => nomatch hz))) (by decide) (by decide) kw_112 cast_2 (fun q4 => ?_)
      refine q_astore (pc := 23) (lo' := [(0, .ref (o 28)), (1, .int x1), (2, .int x2), (3, .int x3), (4, .ref (o 0)), (5, .ref q4)]) hX [1, 2, 3, 4, 5, 0] (by decide) rfl dL_punch_23 ?_
      refine q_iconst (pc := 25) hX (3) rfl dL_punch_25 ?_
      cases hE
      exact q_iret hX hR (by decide) (by decide) dL_punch_26
    rw [if_neg hkr1_2] at hE
    cases hE
  rw [if_neg (fun h => h hkr1)] at hE
  refine q_callV (pc := 7) (id := 28) (As := [.int x1, .int x2, .int x3]) (rest := [.int 0, .ref (o 0)]) (rv := some (.int r1.2.1)) (st' := [.int r1.2.1, .int 0, .ref (o 0)]) hX (MI_0 hkr1 (c_X6_punch hr1)) (vl_L_23) (lt46 (by decide)) rfl rfl rfl pd_yX6_punch rfl ⟨by decide, by decide⟩ ⟨by decide, by decide⟩ rfl (Nat.le_of_ble_eq_true rfl) rfl dL_punch_7 ?_
  refine q_i2l (pc := 10) hX dL_punch_10 ?_
  obtain ⟨G5, hG5, hE⟩ := ob_bind hE
  refine r_last (pc := 11) (id := 0) (n := 1) hX (lt46 (by decide)) (fun _ _ => rfl) hG5 dL_punch_11 ?_
  refine q_goto (pc := 12) hX 27 (by decide) dL_punch_12 ?_
  refine q_iconst (pc := 27) hX (0) rfl dL_punch_27 ?_
  cases hE
  exact q_iret hX hR (by decide) (by decide) dL_punch_28

set_option maxHeartbeats 4000000 in
theorem c_L_removePunch {Y : Lx} {o : Nat → Nat} {hn : Nat} {M : Mem} {G : Mel} {x1 : Int32} {x2 : Int32} {rr : Int32} {Mr : Mem} {Gr : Mel} (hE : s_L_removePunch M G hn x1 x2 = some (rr, Mr, Gr)) : MIW Y yL_removePunch cL_removePunch 5 (some .int) [(0, 17, 20, 21), (0, 17, 24, 31)] 8 137 2 12 [.ref (o 28), .int x1, .int x2, .ref (o 0)] o hn M G (.inl (some (.int rr))) Mr Gr := by
  refine MIW.of (by decide +kernel) (Nat.le_of_ble_eq_true rfl) (fun X hY hX hE0 hR => ?_)
  change CxOK X RL cL_removePunch 5 8 137 2 12 (some .int) at hX
  show WM X o hn M G 0 0 0 5 [(0, .ref (o 28)), (1, .int x1), (2, .int x2), (3, .ref (o 0))] []
  unfold s_L_removePunch at hE
  refine q_aload_n (pc := 0) hX 3 rfl rfl dL_removePunch_0 ?_
  refine q_iconst (pc := 1) hX (0) rfl dL_removePunch_1 ?_
  refine q_aload_n (pc := 2) hX 0 rfl rfl dL_removePunch_2 ?_
  refine q_iload_n (pc := 3) hX 1 rfl rfl dL_removePunch_3 ?_
  refine q_iload_n (pc := 4) hX 2 rfl rfl dL_removePunch_4 ?_
  obtain ⟨r1, hr1, hE⟩ := ob_bind hE
  by_cases hkr1 : r1.1 = 0
  rotate_left
  · rw [if_pos hkr1] at hE
    by_cases hkr1_3 : r1.1 = 3
    · rw [if_pos hkr1_3] at hE
      refine q_callVx (pc := 5) (id := 28) (As := [.int x1, .int x2]) (rest := [.int 0, .ref (o 0)]) hX (MI_x3 hkr1_3 (c_X6_removePunch hr1)) (vl_L_27) (lt46 (by decide)) rfl rfl rfl pd_yX6_removePunch rfl ⟨by decide, by decide⟩ ⟨by decide, by decide⟩ rfl (Nat.le_of_ble_eq_true rfl) dL_removePunch_5 ?_
      refine q_catch hX hE0 [] ⟨0, 17, 20, 21⟩ [⟨0, 17, 24, 31⟩] rfl (fun z hz => nomatch hz) (by decide) (by decide) kw_155 cast_3 (fun q2 => ?_)
      refine q_astore (pc := 20) (lo' := [(0, .ref (o 28)), (1, .int x1), (2, .int x2), (3, .ref (o 0)), (4, .ref q2)]) hX [1, 2, 3, 4, 0] (by decide) rfl dL_removePunch_20 ?_
      refine q_iconst (pc := 22) hX (1) rfl dL_removePunch_22 ?_
      cases hE
      exact q_iret hX hR (by decide) (by decide) dL_removePunch_23
    rw [if_neg hkr1_3] at hE
    by_cases hkr1_4 : r1.1 = 4
    · rw [if_pos hkr1_4] at hE
      refine q_callVx (pc := 5) (id := 28) (As := [.int x1, .int x2]) (rest := [.int 0, .ref (o 0)]) hX (MI_x4 hkr1_4 (c_X6_removePunch hr1)) (vl_L_27) (lt46 (by decide)) rfl rfl rfl pd_yX6_removePunch rfl ⟨by decide, by decide⟩ ⟨by decide, by decide⟩ rfl (Nat.le_of_ble_eq_true rfl) dL_removePunch_5 ?_
      refine q_catch hX hE0 [⟨0, 17, 20, 21⟩] ⟨0, 17, 24, 31⟩ [] rfl (fun z hz => (List.mem_cons.mp hz).elim (fun e => by subst e; exact ⟨by decide, eIOB, kw_155, by decide +kernel⟩) (fun hz => nomatch hz)) (by decide) (by decide) kw_221 cast_4 (fun q3 => ?_)
      refine q_astore (pc := 24) (lo' := [(0, .ref (o 28)), (1, .int x1), (2, .int x2), (3, .ref (o 0)), (4, .ref q3)]) hX [1, 2, 3, 4, 0] (by decide) rfl dL_removePunch_24 ?_
      refine q_iconst (pc := 26) hX (2) rfl dL_removePunch_26 ?_
      cases hE
      exact q_iret hX hR (by decide) (by decide) dL_removePunch_27
    rw [if_neg hkr1_4] at hE
    cases hE
  rw [if_neg (fun h => h hkr1)] at hE
  refine q_callV (pc := 5) (id := 28) (As := [.int x1, .int x2]) (rest := [.int 0, .ref (o 0)]) (rv := some (.int r1.2.1)) (st' := [.int r1.2.1, .int 0, .ref (o 0)]) hX (MI_0 hkr1 (c_X6_removePunch hr1)) (vl_L_27) (lt46 (by decide)) rfl rfl rfl pd_yX6_removePunch rfl ⟨by decide, by decide⟩ ⟨by decide, by decide⟩ rfl (Nat.le_of_ble_eq_true rfl) rfl dL_removePunch_5 ?_
  obtain ⟨p5, hp5, hE⟩ := bnd_ob hE
  suffices Jp5 : WM X o hn r1.2.2 G 2 12 16 5 [] [.long p5, .int 0, .ref (o 0)] by
    refine q_if_eq (pc := 8) hX 15 (by decide) dL_removePunch_8 (fun c => ?_) (fun c => ?_)
    · rw [if_pos c] at hp5
      refine q_lconst (pc := 15) hX 0 rfl dL_removePunch_15 ?_
      refine q_lo [] rfl ?_
      cases hp5
      exact Jp5
    · rw [if_neg c] at hp5
      refine q_lconst (pc := 11) hX 1 rfl dL_removePunch_11 ?_
      refine q_goto (pc := 12) hX 16 (by decide) dL_removePunch_12 ?_
      refine q_lo [] rfl ?_
      cases hp5
      exact Jp5
  obtain ⟨G6, hG6, hE⟩ := ob_bind hE
  refine r_last (pc := 16) (id := 0) (n := 1) hX (lt46 (by decide)) (fun _ _ => rfl) hG6 dL_removePunch_16 ?_
  refine q_goto (pc := 17) hX 28 (by decide) dL_removePunch_17 ?_
  refine q_iconst (pc := 28) hX (0) rfl dL_removePunch_28 ?_
  cases hE
  exact q_iret hX hR (by decide) (by decide) dL_removePunch_29

set_option maxHeartbeats 4000000 in
theorem c_L_enter {Y : Lx} {o : Nat → Nat} {hn : Nat} {M : Mem} {G : Mel} {x1 : Int32} {x2 : Int32} {x3 : Int32} {rr : Int32} {Mr : Mem} {Gr : Mel} (hE : s_L_enter M G hn x1 x2 x3 = some (rr, Mr, Gr)) : MIW Y yL_enter cL_enter 6 (some .int) [(0, 12, 15, 21), (0, 12, 19, 13), (0, 12, 23, 15)] 9 158 4 24 [.ref (o 28), .int x1, .int x2, .int x3, .ref (o 0)] o hn M G (.inl (some (.int rr))) Mr Gr := by
  refine MIW.of (by decide +kernel) (Nat.le_of_ble_eq_true rfl) (fun X hY hX hE0 hR => ?_)
  change CxOK X RL cL_enter 6 9 158 4 24 (some .int) at hX
  show WM X o hn M G 0 0 0 6 [(0, .ref (o 28)), (1, .int x1), (2, .int x2), (3, .int x3), (4, .ref (o 0))] []
  unfold s_L_enter at hE
  refine q_aload (pc := 0) hX 4 rfl dL_enter_0 ?_
  refine q_iconst (pc := 2) hX (0) rfl dL_enter_2 ?_
  refine q_aload_n (pc := 3) hX 0 rfl rfl dL_enter_3 ?_
  refine q_iload_n (pc := 4) hX 1 rfl rfl dL_enter_4 ?_
  refine q_iload_n (pc := 5) hX 2 rfl rfl dL_enter_5 ?_
  refine q_iload_n (pc := 6) hX 3 rfl rfl dL_enter_6 ?_
  obtain ⟨r1, hr1, hE⟩ := ob_bind hE
  by_cases hkr1 : r1.1 = 0
  rotate_left
  · rw [if_pos hkr1] at hE
    by_cases hkr1_3 : r1.1 = 3
    · rw [if_pos hkr1_3] at hE
      refine q_callVx (pc := 7) (id := 28) (As := [.int x1, .int x2, .int x3]) (rest := [.int 0, .ref (o 0)]) hX (MI_x3 hkr1_3 (c_X6_enter hr1)) (vl_L_33) (lt46 (by decide)) rfl rfl rfl pd_yX6_enter rfl ⟨by decide, by decide⟩ ⟨by decide, by decide⟩ rfl (Nat.le_of_ble_eq_true rfl) dL_enter_7 ?_
      refine q_catch hX hE0 [] ⟨0, 12, 15, 21⟩ [⟨0, 12, 19, 13⟩, ⟨0, 12, 23, 15⟩] rfl (fun z hz => nomatch hz) (by decide) (by decide) kw_155 cast_3 (fun q2 => ?_)
      refine q_astore (pc := 15) (lo' := [(0, .ref (o 28)), (1, .int x1), (2, .int x2), (3, .int x3), (4, .ref (o 0)), (5, .ref q2)]) hX [1, 2, 3, 4, 5, 0] (by decide) rfl dL_enter_15 ?_
      refine q_iconst (pc := 17) hX (1) rfl dL_enter_17 ?_
      cases hE
      exact q_iret hX hR (by decide) (by decide) dL_enter_18
    rw [if_neg hkr1_3] at hE
    by_cases hkr1_1 : r1.1 = 1
    · rw [if_pos hkr1_1] at hE
      refine q_callVx (pc := 7) (id := 28) (As := [.int x1, .int x2, .int x3]) (rest := [.int 0, .ref (o 0)]) hX (MI_x1 hkr1_1 (c_X6_enter hr1)) (vl_L_33) (lt46 (by decide)) rfl rfl rfl pd_yX6_enter rfl ⟨by decide, by decide⟩ ⟨by decide, by decide⟩ rfl (Nat.le_of_ble_eq_true rfl) dL_enter_7 ?_
      refine q_catch hX hE0 [⟨0, 12, 15, 21⟩] ⟨0, 12, 19, 13⟩ [⟨0, 12, 23, 15⟩] rfl (fun z hz => (List.mem_cons.mp hz).elim (fun e => by subst e; exact ⟨by decide, eIOB, kw_155, by decide +kernel⟩) (fun hz => nomatch hz)) (by decide) (by decide) kw_111 cast_1 (fun q3 => ?_)
      refine q_astore (pc := 19) (lo' := [(0, .ref (o 28)), (1, .int x1), (2, .int x2), (3, .int x3), (4, .ref (o 0)), (5, .ref q3)]) hX [1, 2, 3, 4, 5, 0] (by decide) rfl dL_enter_19 ?_
      refine q_iconst (pc := 21) hX (2) rfl dL_enter_21 ?_
      cases hE
      exact q_iret hX hR (by decide) (by decide) dL_enter_22
    rw [if_neg hkr1_1] at hE
    by_cases hkr1_2 : r1.1 = 2
    · rw [if_pos hkr1_2] at hE
      refine q_callVx (pc := 7) (id := 28) (As := [.int x1, .int x2, .int x3]) (rest := [.int 0, .ref (o 0)]) hX (MI_x2 hkr1_2 (c_X6_enter hr1)) (vl_L_33) (lt46 (by decide)) rfl rfl rfl pd_yX6_enter rfl ⟨by decide, by decide⟩ ⟨by decide, by decide⟩ rfl (Nat.le_of_ble_eq_true rfl) dL_enter_7 ?_
      refine q_catch hX hE0 [⟨0, 12, 15, 21⟩, ⟨0, 12, 19, 13⟩] ⟨0, 12, 23, 15⟩ [] rfl (fun z hz => (List.mem_cons.mp hz).elim (fun e => by subst e; exact ⟨by decide, eIOB, kw_155, by decide +kernel⟩) (fun hz => (List.mem_cons.mp hz).elim (fun e => by subst e; exact ⟨by decide, eIAE, kw_111, by decide +kernel⟩) (fun hz => nomatch hz))) (by decide) (by decide) kw_112 cast_2 (fun q4 => ?_)
      refine q_astore (pc := 23) (lo' := [(0, .ref (o 28)), (1, .int x1), (2, .int x2), (3, .int x3), (4, .ref (o 0)), (5, .ref q4)]) hX [1, 2, 3, 4, 5, 0] (by decide) rfl dL_enter_23 ?_
      refine q_iconst (pc := 25) hX (3) rfl dL_enter_25 ?_
      cases hE
      exact q_iret hX hR (by decide) (by decide) dL_enter_26
    rw [if_neg hkr1_2] at hE
    cases hE
  rw [if_neg (fun h => h hkr1)] at hE
  refine q_callV (pc := 7) (id := 28) (As := [.int x1, .int x2, .int x3]) (rest := [.int 0, .ref (o 0)]) (rv := some (.int r1.2.1)) (st' := [.int r1.2.1, .int 0, .ref (o 0)]) hX (MI_0 hkr1 (c_X6_enter hr1)) (vl_L_33) (lt46 (by decide)) rfl rfl rfl pd_yX6_enter rfl ⟨by decide, by decide⟩ ⟨by decide, by decide⟩ rfl (Nat.le_of_ble_eq_true rfl) rfl dL_enter_7 ?_
  refine q_i2l (pc := 10) hX dL_enter_10 ?_
  obtain ⟨G5, hG5, hE⟩ := ob_bind hE
  refine r_last (pc := 11) (id := 0) (n := 1) hX (lt46 (by decide)) (fun _ _ => rfl) hG5 dL_enter_11 ?_
  refine q_goto (pc := 12) hX 27 (by decide) dL_enter_12 ?_
  refine q_iconst (pc := 27) hX (0) rfl dL_enter_27 ?_
  cases hE
  exact q_iret hX hR (by decide) (by decide) dL_enter_28

set_option maxHeartbeats 4000000 in
theorem c_L_removeEntry {Y : Lx} {o : Nat → Nat} {hn : Nat} {M : Mem} {G : Mel} {x1 : Int32} {x2 : Int32} {rr : Int32} {Mr : Mem} {Gr : Mel} (hE : s_L_removeEntry M G hn x1 x2 = some (rr, Mr, Gr)) : MIW Y yL_removeEntry cL_removeEntry 5 (some .int) [(0, 10, 13, 21)] 9 154 2 12 [.ref (o 28), .int x1, .int x2, .ref (o 0)] o hn M G (.inl (some (.int rr))) Mr Gr := by
  refine MIW.of (by decide +kernel) (Nat.le_of_ble_eq_true rfl) (fun X hY hX hE0 hR => ?_)
  change CxOK X RL cL_removeEntry 5 9 154 2 12 (some .int) at hX
  show WM X o hn M G 0 0 0 5 [(0, .ref (o 28)), (1, .int x1), (2, .int x2), (3, .ref (o 0))] []
  unfold s_L_removeEntry at hE
  refine q_aload_n (pc := 0) hX 3 rfl rfl dL_removeEntry_0 ?_
  refine q_iconst (pc := 1) hX (0) rfl dL_removeEntry_1 ?_
  refine q_aload_n (pc := 2) hX 0 rfl rfl dL_removeEntry_2 ?_
  refine q_iload_n (pc := 3) hX 1 rfl rfl dL_removeEntry_3 ?_
  refine q_iload_n (pc := 4) hX 2 rfl rfl dL_removeEntry_4 ?_
  obtain ⟨r1, hr1, hE⟩ := ob_bind hE
  by_cases hkr1 : r1.1 = 0
  rotate_left
  · rw [if_pos hkr1] at hE
    by_cases hkr1_3 : r1.1 = 3
    · rw [if_pos hkr1_3] at hE
      refine q_callVx (pc := 5) (id := 28) (As := [.int x1, .int x2]) (rest := [.int 0, .ref (o 0)]) hX (MI_x3 hkr1_3 (c_X6_removeEntry hr1)) (vl_L_37) (lt46 (by decide)) rfl rfl rfl pd_yX6_removeEntry rfl ⟨by decide, by decide⟩ ⟨by decide, by decide⟩ rfl (Nat.le_of_ble_eq_true rfl) dL_removeEntry_5 ?_
      refine q_catch hX hE0 [] ⟨0, 10, 13, 21⟩ [] rfl (fun z hz => nomatch hz) (by decide) (by decide) kw_155 cast_3 (fun q2 => ?_)
      refine q_astore (pc := 13) (lo' := [(0, .ref (o 28)), (1, .int x1), (2, .int x2), (3, .ref (o 0)), (4, .ref q2)]) hX [1, 2, 3, 4, 0] (by decide) rfl dL_removeEntry_13 ?_
      refine q_iconst (pc := 15) hX (1) rfl dL_removeEntry_15 ?_
      cases hE
      exact q_iret hX hR (by decide) (by decide) dL_removeEntry_16
    rw [if_neg hkr1_3] at hE
    cases hE
  rw [if_neg (fun h => h hkr1)] at hE
  refine q_callV (pc := 5) (id := 28) (As := [.int x1, .int x2]) (rest := [.int 0, .ref (o 0)]) (rv := some (.int r1.2.1)) (st' := [.int r1.2.1, .int 0, .ref (o 0)]) hX (MI_0 hkr1 (c_X6_removeEntry hr1)) (vl_L_37) (lt46 (by decide)) rfl rfl rfl pd_yX6_removeEntry rfl ⟨by decide, by decide⟩ ⟨by decide, by decide⟩ rfl (Nat.le_of_ble_eq_true rfl) rfl dL_removeEntry_5 ?_
  refine q_i2l (pc := 8) hX dL_removeEntry_8 ?_
  obtain ⟨G3, hG3, hE⟩ := ob_bind hE
  refine r_last (pc := 9) (id := 0) (n := 1) hX (lt46 (by decide)) (fun _ _ => rfl) hG3 dL_removeEntry_9 ?_
  refine q_goto (pc := 10) hX 17 (by decide) dL_removeEntry_10 ?_
  refine q_iconst (pc := 17) hX (0) rfl dL_removeEntry_17 ?_
  cases hE
  exact q_iret hX hR (by decide) (by decide) dL_removeEntry_18

set_option maxHeartbeats 4000000 in
theorem c_L_enterBreak {Y : Lx} {o : Nat → Nat} {hn : Nat} {M : Mem} {G : Mel} {x1 : Int32} {x2 : Int32} {x3 : Int32} {rr : Int32} {Mr : Mem} {Gr : Mel} (hE : s_L_enterBreak M G hn x1 x2 x3 = some (rr, Mr, Gr)) : MIW Y yL_enterBreak cL_enterBreak 6 (some .int) [(0, 12, 15, 21), (0, 12, 19, 13), (0, 12, 23, 15)] 9 158 4 24 [.ref (o 28), .int x1, .int x2, .int x3, .ref (o 0)] o hn M G (.inl (some (.int rr))) Mr Gr := by
  refine MIW.of (by decide +kernel) (Nat.le_of_ble_eq_true rfl) (fun X hY hX hE0 hR => ?_)
  change CxOK X RL cL_enterBreak 6 9 158 4 24 (some .int) at hX
  show WM X o hn M G 0 0 0 6 [(0, .ref (o 28)), (1, .int x1), (2, .int x2), (3, .int x3), (4, .ref (o 0))] []
  unfold s_L_enterBreak at hE
  refine q_aload (pc := 0) hX 4 rfl dL_enterBreak_0 ?_
  refine q_iconst (pc := 2) hX (0) rfl dL_enterBreak_2 ?_
  refine q_aload_n (pc := 3) hX 0 rfl rfl dL_enterBreak_3 ?_
  refine q_iload_n (pc := 4) hX 1 rfl rfl dL_enterBreak_4 ?_
  refine q_iload_n (pc := 5) hX 2 rfl rfl dL_enterBreak_5 ?_
  refine q_iload_n (pc := 6) hX 3 rfl rfl dL_enterBreak_6 ?_
  obtain ⟨r1, hr1, hE⟩ := ob_bind hE
  by_cases hkr1 : r1.1 = 0
  rotate_left
  · rw [if_pos hkr1] at hE
    by_cases hkr1_3 : r1.1 = 3
    · rw [if_pos hkr1_3] at hE
      refine q_callVx (pc := 7) (id := 28) (As := [.int x1, .int x2, .int x3]) (rest := [.int 0, .ref (o 0)]) hX (MI_x3 hkr1_3 (c_X6_enterBreak hr1)) (vl_L_40) (lt46 (by decide)) rfl rfl rfl pd_yX6_enterBreak rfl ⟨by decide, by decide⟩ ⟨by decide, by decide⟩ rfl (Nat.le_of_ble_eq_true rfl) dL_enterBreak_7 ?_
      refine q_catch hX hE0 [] ⟨0, 12, 15, 21⟩ [⟨0, 12, 19, 13⟩, ⟨0, 12, 23, 15⟩] rfl (fun z hz => nomatch hz) (by decide) (by decide) kw_155 cast_3 (fun q2 => ?_)
      refine q_astore (pc := 15) (lo' := [(0, .ref (o 28)), (1, .int x1), (2, .int x2), (3, .int x3), (4, .ref (o 0)), (5, .ref q2)]) hX [1, 2, 3, 4, 5, 0] (by decide) rfl dL_enterBreak_15 ?_
      refine q_iconst (pc := 17) hX (1) rfl dL_enterBreak_17 ?_
      cases hE
      exact q_iret hX hR (by decide) (by decide) dL_enterBreak_18
    rw [if_neg hkr1_3] at hE
    by_cases hkr1_1 : r1.1 = 1
    · rw [if_pos hkr1_1] at hE
      refine q_callVx (pc := 7) (id := 28) (As := [.int x1, .int x2, .int x3]) (rest := [.int 0, .ref (o 0)]) hX (MI_x1 hkr1_1 (c_X6_enterBreak hr1)) (vl_L_40) (lt46 (by decide)) rfl rfl rfl pd_yX6_enterBreak rfl ⟨by decide, by decide⟩ ⟨by decide, by decide⟩ rfl (Nat.le_of_ble_eq_true rfl) dL_enterBreak_7 ?_
      refine q_catch hX hE0 [⟨0, 12, 15, 21⟩] ⟨0, 12, 19, 13⟩ [⟨0, 12, 23, 15⟩] rfl (fun z hz => (List.mem_cons.mp hz).elim (fun e => by subst e; exact ⟨by decide, eIOB, kw_155, by decide +kernel⟩) (fun hz => nomatch hz)) (by decide) (by decide) kw_111 cast_1 (fun q3 => ?_)
      refine q_astore (pc := 19) (lo' := [(0, .ref (o 28)), (1, .int x1), (2, .int x2), (3, .int x3), (4, .ref (o 0)), (5, .ref q3)]) hX [1, 2, 3, 4, 5, 0] (by decide) rfl dL_enterBreak_19 ?_
      refine q_iconst (pc := 21) hX (2) rfl dL_enterBreak_21 ?_
      cases hE
      exact q_iret hX hR (by decide) (by decide) dL_enterBreak_22
    rw [if_neg hkr1_1] at hE
    by_cases hkr1_2 : r1.1 = 2
    · rw [if_pos hkr1_2] at hE
      refine q_callVx (pc := 7) (id := 28) (As := [.int x1, .int x2, .int x3]) (rest := [.int 0, .ref (o 0)]) hX (MI_x2 hkr1_2 (c_X6_enterBreak hr1)) (vl_L_40) (lt46 (by decide)) rfl rfl rfl pd_yX6_enterBreak rfl ⟨by decide, by decide⟩ ⟨by decide, by decide⟩ rfl (Nat.le_of_ble_eq_true rfl) dL_enterBreak_7 ?_
      refine q_catch hX hE0 [⟨0, 12, 15, 21⟩, ⟨0, 12, 19, 13⟩] ⟨0, 12, 23, 15⟩ [] rfl (fun z hz => (List.mem_cons.mp hz).elim (fun e => by subst e; exact ⟨by decide, eIOB, kw_155, by decide +kernel⟩) (fun hz => (List.mem_cons.mp hz).elim (fun e => by subst e; exact ⟨by decide, eIAE, kw_111, by decide +kernel⟩) (fun hz => nomatch hz))) (by decide) (by decide) kw_112 cast_2 (fun q4 => ?_)
      refine q_astore (pc := 23) (lo' := [(0, .ref (o 28)), (1, .int x1), (2, .int x2), (3, .int x3), (4, .ref (o 0)), (5, .ref q4)]) hX [1, 2, 3, 4, 5, 0] (by decide) rfl dL_enterBreak_23 ?_
      refine q_iconst (pc := 25) hX (3) rfl dL_enterBreak_25 ?_
      cases hE
      exact q_iret hX hR (by decide) (by decide) dL_enterBreak_26
    rw [if_neg hkr1_2] at hE
    cases hE
  rw [if_neg (fun h => h hkr1)] at hE
  refine q_callV (pc := 7) (id := 28) (As := [.int x1, .int x2, .int x3]) (rest := [.int 0, .ref (o 0)]) (rv := some (.int r1.2.1)) (st' := [.int r1.2.1, .int 0, .ref (o 0)]) hX (MI_0 hkr1 (c_X6_enterBreak hr1)) (vl_L_40) (lt46 (by decide)) rfl rfl rfl pd_yX6_enterBreak rfl ⟨by decide, by decide⟩ ⟨by decide, by decide⟩ rfl (Nat.le_of_ble_eq_true rfl) rfl dL_enterBreak_7 ?_
  refine q_i2l (pc := 10) hX dL_enterBreak_10 ?_
  obtain ⟨G5, hG5, hE⟩ := ob_bind hE
  refine r_last (pc := 11) (id := 0) (n := 1) hX (lt46 (by decide)) (fun _ _ => rfl) hG5 dL_enterBreak_11 ?_
  refine q_goto (pc := 12) hX 27 (by decide) dL_enterBreak_12 ?_
  refine q_iconst (pc := 27) hX (0) rfl dL_enterBreak_27 ?_
  cases hE
  exact q_iret hX hR (by decide) (by decide) dL_enterBreak_28

set_option maxHeartbeats 4000000 in
theorem c_L_removeBreak {Y : Lx} {o : Nat → Nat} {hn : Nat} {M : Mem} {G : Mel} {x1 : Int32} {x2 : Int32} {rr : Int32} {Mr : Mem} {Gr : Mel} (hE : s_L_removeBreak M G hn x1 x2 = some (rr, Mr, Gr)) : MIW Y yL_removeBreak cL_removeBreak 5 (some .int) [(0, 10, 13, 21)] 9 154 2 12 [.ref (o 28), .int x1, .int x2, .ref (o 0)] o hn M G (.inl (some (.int rr))) Mr Gr := by
  refine MIW.of (by decide +kernel) (Nat.le_of_ble_eq_true rfl) (fun X hY hX hE0 hR => ?_)
  change CxOK X RL cL_removeBreak 5 9 154 2 12 (some .int) at hX
  show WM X o hn M G 0 0 0 5 [(0, .ref (o 28)), (1, .int x1), (2, .int x2), (3, .ref (o 0))] []
  unfold s_L_removeBreak at hE
  refine q_aload_n (pc := 0) hX 3 rfl rfl dL_removeBreak_0 ?_
  refine q_iconst (pc := 1) hX (0) rfl dL_removeBreak_1 ?_
  refine q_aload_n (pc := 2) hX 0 rfl rfl dL_removeBreak_2 ?_
  refine q_iload_n (pc := 3) hX 1 rfl rfl dL_removeBreak_3 ?_
  refine q_iload_n (pc := 4) hX 2 rfl rfl dL_removeBreak_4 ?_
  obtain ⟨r1, hr1, hE⟩ := ob_bind hE
  by_cases hkr1 : r1.1 = 0
  rotate_left
  · rw [if_pos hkr1] at hE
    by_cases hkr1_3 : r1.1 = 3
    · rw [if_pos hkr1_3] at hE
      refine q_callVx (pc := 5) (id := 28) (As := [.int x1, .int x2]) (rest := [.int 0, .ref (o 0)]) hX (MI_x3 hkr1_3 (c_X6_removeBreak hr1)) (vl_L_43) (lt46 (by decide)) rfl rfl rfl pd_yX6_removeBreak rfl ⟨by decide, by decide⟩ ⟨by decide, by decide⟩ rfl (Nat.le_of_ble_eq_true rfl) dL_removeBreak_5 ?_
      refine q_catch hX hE0 [] ⟨0, 10, 13, 21⟩ [] rfl (fun z hz => nomatch hz) (by decide) (by decide) kw_155 cast_3 (fun q2 => ?_)
      refine q_astore (pc := 13) (lo' := [(0, .ref (o 28)), (1, .int x1), (2, .int x2), (3, .ref (o 0)), (4, .ref q2)]) hX [1, 2, 3, 4, 0] (by decide) rfl dL_removeBreak_13 ?_
      refine q_iconst (pc := 15) hX (1) rfl dL_removeBreak_15 ?_
      cases hE
      exact q_iret hX hR (by decide) (by decide) dL_removeBreak_16
    rw [if_neg hkr1_3] at hE
    cases hE
  rw [if_neg (fun h => h hkr1)] at hE
  refine q_callV (pc := 5) (id := 28) (As := [.int x1, .int x2]) (rest := [.int 0, .ref (o 0)]) (rv := some (.int r1.2.1)) (st' := [.int r1.2.1, .int 0, .ref (o 0)]) hX (MI_0 hkr1 (c_X6_removeBreak hr1)) (vl_L_43) (lt46 (by decide)) rfl rfl rfl pd_yX6_removeBreak rfl ⟨by decide, by decide⟩ ⟨by decide, by decide⟩ rfl (Nat.le_of_ble_eq_true rfl) rfl dL_removeBreak_5 ?_
  refine q_i2l (pc := 8) hX dL_removeBreak_8 ?_
  obtain ⟨G3, hG3, hE⟩ := ob_bind hE
  refine r_last (pc := 9) (id := 0) (n := 1) hX (lt46 (by decide)) (fun _ _ => rfl) hG3 dL_removeBreak_9 ?_
  refine q_goto (pc := 10) hX 17 (by decide) dL_removeBreak_10 ?_
  refine q_iconst (pc := 17) hX (0) rfl dL_removeBreak_17 ?_
  cases hE
  exact q_iret hX hR (by decide) (by decide) dL_removeBreak_18

set_option maxHeartbeats 4000000 in
theorem c_L_addPremium {Y : Lx} {o : Nat → Nat} {hn : Nat} {M : Mem} {G : Mel} {x1 : Int32} {x2 : Int32} {x3 : Int32} {x4 : Int32} {rr : Int32} {Mr : Mem} {Gr : Mel} (hE : s_L_addPremium M G x1 x2 x3 x4 = some (rr, Mr, Gr)) : MIW Y yL_addPremium cL_addPremium 7 (some .int) [(0, 14, 17, 13), (0, 14, 21, 15)] 8 136 5 30 [.ref (o 28), .int x1, .int x2, .int x3, .int x4, .ref (o 0)] o hn M G (.inl (some (.int rr))) Mr Gr := by
  refine MIW.of (by decide +kernel) (Nat.le_of_ble_eq_true rfl) (fun X hY hX hE0 hR => ?_)
  change CxOK X RL cL_addPremium 7 8 136 5 30 (some .int) at hX
  show WM X o hn M G 0 0 0 7 [(0, .ref (o 28)), (1, .int x1), (2, .int x2), (3, .int x3), (4, .int x4), (5, .ref (o 0))] []
  unfold s_L_addPremium at hE
  refine q_aload (pc := 0) hX 5 rfl dL_addPremium_0 ?_
  refine q_iconst (pc := 2) hX (0) rfl dL_addPremium_2 ?_
  refine q_aload_n (pc := 3) hX 0 rfl rfl dL_addPremium_3 ?_
  refine q_iload_n (pc := 4) hX 1 rfl rfl dL_addPremium_4 ?_
  refine q_iload_n (pc := 5) hX 2 rfl rfl dL_addPremium_5 ?_
  refine q_iload_n (pc := 6) hX 3 rfl rfl dL_addPremium_6 ?_
  refine q_iload (pc := 7) hX 4 rfl dL_addPremium_7 ?_
  obtain ⟨r1, hr1, hE⟩ := ob_bind hE
  by_cases hkr1 : r1.1 = 0
  rotate_left
  · rw [if_pos hkr1] at hE
    by_cases hkr1_1 : r1.1 = 1
    · rw [if_pos hkr1_1] at hE
      refine q_callVx (pc := 9) (id := 28) (As := [.int x1, .int x2, .int x3, .int x4]) (rest := [.int 0, .ref (o 0)]) hX (MI_x1 hkr1_1 (c_X6_addPremium hr1)) (vl_L_46) (lt46 (by decide)) rfl rfl rfl pd_yX6_addPremium rfl ⟨by decide, by decide⟩ ⟨by decide, by decide⟩ rfl (Nat.le_of_ble_eq_true rfl) dL_addPremium_9 ?_
      refine q_catch hX hE0 [] ⟨0, 14, 17, 13⟩ [⟨0, 14, 21, 15⟩] rfl (fun z hz => nomatch hz) (by decide) (by decide) kw_111 cast_1 (fun q2 => ?_)
      refine q_astore (pc := 17) (lo' := [(0, .ref (o 28)), (1, .int x1), (2, .int x2), (3, .int x3), (4, .int x4), (5, .ref (o 0)), (6, .ref q2)]) hX [1, 2, 3, 4, 5, 6, 0] (by decide) rfl dL_addPremium_17 ?_
      refine q_iconst (pc := 19) hX (1) rfl dL_addPremium_19 ?_
      cases hE
      exact q_iret hX hR (by decide) (by decide) dL_addPremium_20
    rw [if_neg hkr1_1] at hE
    by_cases hkr1_2 : r1.1 = 2
    · rw [if_pos hkr1_2] at hE
      refine q_callVx (pc := 9) (id := 28) (As := [.int x1, .int x2, .int x3, .int x4]) (rest := [.int 0, .ref (o 0)]) hX (MI_x2 hkr1_2 (c_X6_addPremium hr1)) (vl_L_46) (lt46 (by decide)) rfl rfl rfl pd_yX6_addPremium rfl ⟨by decide, by decide⟩ ⟨by decide, by decide⟩ rfl (Nat.le_of_ble_eq_true rfl) dL_addPremium_9 ?_
      refine q_catch hX hE0 [⟨0, 14, 17, 13⟩] ⟨0, 14, 21, 15⟩ [] rfl (fun z hz => (List.mem_cons.mp hz).elim (fun e => by subst e; exact ⟨by decide, eIAE, kw_111, by decide +kernel⟩) (fun hz => nomatch hz)) (by decide) (by decide) kw_112 cast_2 (fun q3 => ?_)
      refine q_astore (pc := 21) (lo' := [(0, .ref (o 28)), (1, .int x1), (2, .int x2), (3, .int x3), (4, .int x4), (5, .ref (o 0)), (6, .ref q3)]) hX [1, 2, 3, 4, 5, 6, 0] (by decide) rfl dL_addPremium_21 ?_
      refine q_iconst (pc := 23) hX (2) rfl dL_addPremium_23 ?_
      cases hE
      exact q_iret hX hR (by decide) (by decide) dL_addPremium_24
    rw [if_neg hkr1_2] at hE
    cases hE
  rw [if_neg (fun h => h hkr1)] at hE
  refine q_callV (pc := 9) (id := 28) (As := [.int x1, .int x2, .int x3, .int x4]) (rest := [.int 0, .ref (o 0)]) (rv := some (.int r1.2.1)) (st' := [.int r1.2.1, .int 0, .ref (o 0)]) hX (MI_0 hkr1 (c_X6_addPremium hr1)) (vl_L_46) (lt46 (by decide)) rfl rfl rfl pd_yX6_addPremium rfl ⟨by decide, by decide⟩ ⟨by decide, by decide⟩ rfl (Nat.le_of_ble_eq_true rfl) rfl dL_addPremium_9 ?_
  refine q_i2l (pc := 12) hX dL_addPremium_12 ?_
  obtain ⟨G4, hG4, hE⟩ := ob_bind hE
  refine r_last (pc := 13) (id := 0) (n := 1) hX (lt46 (by decide)) (fun _ _ => rfl) hG4 dL_addPremium_13 ?_
  refine q_goto (pc := 14) hX 25 (by decide) dL_addPremium_14 ?_
  refine q_iconst (pc := 25) hX (0) rfl dL_addPremium_25 ?_
  cases hE
  exact q_iret hX hR (by decide) (by decide) dL_addPremium_26

set_option maxHeartbeats 4000000 in
theorem c_L_removePremium {Y : Lx} {o : Nat → Nat} {hn : Nat} {M : Mem} {G : Mel} {x1 : Int32} {rr : Int32} {Mr : Mem} {Gr : Mel} (hE : s_L_removePremium M G x1 = some (rr, Mr, Gr)) : MIW Y yL_removePremium cL_removePremium 4 (some .int) [(0, 9, 12, 21)] 9 153 1 6 [.ref (o 28), .int x1, .ref (o 0)] o hn M G (.inl (some (.int rr))) Mr Gr := by
  refine MIW.of (by decide +kernel) (Nat.le_of_ble_eq_true rfl) (fun X hY hX hE0 hR => ?_)
  change CxOK X RL cL_removePremium 4 9 153 1 6 (some .int) at hX
  show WM X o hn M G 0 0 0 4 [(0, .ref (o 28)), (1, .int x1), (2, .ref (o 0))] []
  unfold s_L_removePremium at hE
  refine q_aload_n (pc := 0) hX 2 rfl rfl dL_removePremium_0 ?_
  refine q_iconst (pc := 1) hX (0) rfl dL_removePremium_1 ?_
  refine q_aload_n (pc := 2) hX 0 rfl rfl dL_removePremium_2 ?_
  refine q_iload_n (pc := 3) hX 1 rfl rfl dL_removePremium_3 ?_
  obtain ⟨r1, hr1, hE⟩ := ob_bind hE
  by_cases hkr1 : r1.1 = 0
  rotate_left
  · rw [if_pos hkr1] at hE
    by_cases hkr1_3 : r1.1 = 3
    · rw [if_pos hkr1_3] at hE
      refine q_callVx (pc := 4) (id := 28) (As := [.int x1]) (rest := [.int 0, .ref (o 0)]) hX (MI_x3 hkr1_3 (c_X6_removePremium hr1)) (vl_L_50) (lt46 (by decide)) rfl rfl rfl pd_yX6_removePremium rfl ⟨by decide, by decide⟩ ⟨by decide, by decide⟩ rfl (Nat.le_of_ble_eq_true rfl) dL_removePremium_4 ?_
      refine q_catch hX hE0 [] ⟨0, 9, 12, 21⟩ [] rfl (fun z hz => nomatch hz) (by decide) (by decide) kw_155 cast_3 (fun q2 => ?_)
      refine q_astore_n (pc := 12) (lo' := [(0, .ref (o 28)), (1, .int x1), (2, .ref (o 0)), (3, .ref q2)]) hX [1, 2, 3, 0] rfl (by decide) rfl dL_removePremium_12 ?_
      refine q_iconst (pc := 13) hX (1) rfl dL_removePremium_13 ?_
      cases hE
      exact q_iret hX hR (by decide) (by decide) dL_removePremium_14
    rw [if_neg hkr1_3] at hE
    cases hE
  rw [if_neg (fun h => h hkr1)] at hE
  refine q_callV (pc := 4) (id := 28) (As := [.int x1]) (rest := [.int 0, .ref (o 0)]) (rv := some (.int r1.2.1)) (st' := [.int r1.2.1, .int 0, .ref (o 0)]) hX (MI_0 hkr1 (c_X6_removePremium hr1)) (vl_L_50) (lt46 (by decide)) rfl rfl rfl pd_yX6_removePremium rfl ⟨by decide, by decide⟩ ⟨by decide, by decide⟩ rfl (Nat.le_of_ble_eq_true rfl) rfl dL_removePremium_4 ?_
  refine q_i2l (pc := 7) hX dL_removePremium_7 ?_
  obtain ⟨G3, hG3, hE⟩ := ob_bind hE
  refine r_last (pc := 8) (id := 0) (n := 1) hX (lt46 (by decide)) (fun _ _ => rfl) hG3 dL_removePremium_8 ?_
  refine q_goto (pc := 9) hX 15 (by decide) dL_removePremium_9 ?_
  refine q_iconst (pc := 15) hX (0) rfl dL_removePremium_15 ?_
  cases hE
  exact q_iret hX hR (by decide) (by decide) dL_removePremium_16

set_option maxHeartbeats 4000000 in
theorem c_L_closeWeek {Y : Lx} {o : Nat → Nat} {hn : Nat} {M : Mem} {G : Mel} {x1 : Int32} {rr : Int32} {Mr : Mem} {Gr : Mel} (hE : s_L_closeWeek M G hn x1 = some (rr, Mr, Gr)) : MIW Y yL_closeWeek cL_closeWeek 4 (some .int) [(0, 9, 12, 21), (0, 9, 15, 15)] 8 163 2 12 [.ref (o 28), .int x1, .ref (o 0)] o hn M G (.inl (some (.int rr))) Mr Gr := by
  refine MIW.of (by decide +kernel) (Nat.le_of_ble_eq_true rfl) (fun X hY hX hE0 hR => ?_)
  change CxOK X RL cL_closeWeek 4 8 163 2 12 (some .int) at hX
  show WM X o hn M G 0 0 0 4 [(0, .ref (o 28)), (1, .int x1), (2, .ref (o 0))] []
  unfold s_L_closeWeek at hE
  refine q_aload_n (pc := 0) hX 2 rfl rfl dL_closeWeek_0 ?_
  refine q_iconst (pc := 1) hX (0) rfl dL_closeWeek_1 ?_
  refine q_aload_n (pc := 2) hX 0 rfl rfl dL_closeWeek_2 ?_
  refine q_iload_n (pc := 3) hX 1 rfl rfl dL_closeWeek_3 ?_
  obtain ⟨r1, hr1, hE⟩ := ob_bind hE
  by_cases hkr1 : r1.1 = 0
  rotate_left
  · rw [if_pos hkr1] at hE
    by_cases hkr1_3 : r1.1 = 3
    · rw [if_pos hkr1_3] at hE
      refine q_callVx (pc := 4) (id := 28) (As := [.int x1]) (rest := [.int 0, .ref (o 0)]) hX (MI_x3 hkr1_3 (c_X6_closeWeek hr1)) (vl_L_53) (lt46 (by decide)) rfl rfl rfl pd_yX6_closeWeek rfl ⟨by decide, by decide⟩ ⟨by decide, by decide⟩ rfl (Nat.le_of_ble_eq_true rfl) dL_closeWeek_4 ?_
      refine q_catch hX hE0 [] ⟨0, 9, 12, 21⟩ [⟨0, 9, 15, 15⟩] rfl (fun z hz => nomatch hz) (by decide) (by decide) kw_155 cast_3 (fun q2 => ?_)
      refine q_astore_n (pc := 12) (lo' := [(0, .ref (o 28)), (1, .int x1), (2, .ref (o 0)), (3, .ref q2)]) hX [1, 2, 3, 0] rfl (by decide) rfl dL_closeWeek_12 ?_
      refine q_iconst (pc := 13) hX (1) rfl dL_closeWeek_13 ?_
      cases hE
      exact q_iret hX hR (by decide) (by decide) dL_closeWeek_14
    rw [if_neg hkr1_3] at hE
    by_cases hkr1_2 : r1.1 = 2
    · rw [if_pos hkr1_2] at hE
      refine q_callVx (pc := 4) (id := 28) (As := [.int x1]) (rest := [.int 0, .ref (o 0)]) hX (MI_x2 hkr1_2 (c_X6_closeWeek hr1)) (vl_L_53) (lt46 (by decide)) rfl rfl rfl pd_yX6_closeWeek rfl ⟨by decide, by decide⟩ ⟨by decide, by decide⟩ rfl (Nat.le_of_ble_eq_true rfl) dL_closeWeek_4 ?_
      refine q_catch hX hE0 [⟨0, 9, 12, 21⟩] ⟨0, 9, 15, 15⟩ [] rfl (fun z hz => (List.mem_cons.mp hz).elim (fun e => by subst e; exact ⟨by decide, eIOB, kw_155, by decide +kernel⟩) (fun hz => nomatch hz)) (by decide) (by decide) kw_112 cast_2 (fun q3 => ?_)
      refine q_astore_n (pc := 15) (lo' := [(0, .ref (o 28)), (1, .int x1), (2, .ref (o 0)), (3, .ref q3)]) hX [1, 2, 3, 0] rfl (by decide) rfl dL_closeWeek_15 ?_
      refine q_iconst (pc := 16) hX (2) rfl dL_closeWeek_16 ?_
      cases hE
      exact q_iret hX hR (by decide) (by decide) dL_closeWeek_17
    rw [if_neg hkr1_2] at hE
    cases hE
  rw [if_neg (fun h => h hkr1)] at hE
  refine q_callV (pc := 4) (id := 28) (As := [.int x1]) (rest := [.int 0, .ref (o 0)]) (rv := some (.int r1.2.1)) (st' := [.int r1.2.1, .int 0, .ref (o 0)]) hX (MI_0 hkr1 (c_X6_closeWeek hr1)) (vl_L_53) (lt46 (by decide)) rfl rfl rfl pd_yX6_closeWeek rfl ⟨by decide, by decide⟩ ⟨by decide, by decide⟩ rfl (Nat.le_of_ble_eq_true rfl) rfl dL_closeWeek_4 ?_
  refine q_i2l (pc := 7) hX dL_closeWeek_7 ?_
  obtain ⟨G4, hG4, hE⟩ := ob_bind hE
  refine r_last (pc := 8) (id := 0) (n := 1) hX (lt46 (by decide)) (fun _ _ => rfl) hG4 dL_closeWeek_8 ?_
  refine q_goto (pc := 9) hX 18 (by decide) dL_closeWeek_9 ?_
  refine q_iconst (pc := 18) hX (0) rfl dL_closeWeek_18 ?_
  cases hE
  exact q_iret hX hR (by decide) (by decide) dL_closeWeek_19

set_option maxHeartbeats 4000000 in
theorem c_L_closedWeeks {Y : Lx} {o : Nat → Nat} {hn : Nat} {M : Mem} {G : Mel} {x1 : Int32} {rr : Int32} {Gr : Mel} (hE : s_L_closedWeeks M G hn x1 = some (rr, Gr)) : MIW Y yL_closedWeeks cL_closedWeeks 4 (some .int) [(0, 9, 12, 21)] 8 133 1 6 [.ref (o 28), .int x1, .ref (o 0)] o hn M G (.inl (some (.int rr))) M Gr := by
  refine MIW.of (by decide +kernel) (Nat.le_of_ble_eq_true rfl) (fun X hY hX hE0 hR => ?_)
  change CxOK X RL cL_closedWeeks 4 8 133 1 6 (some .int) at hX
  show WM X o hn M G 0 0 0 4 [(0, .ref (o 28)), (1, .int x1), (2, .ref (o 0))] []
  unfold s_L_closedWeeks at hE
  refine q_aload_n (pc := 0) hX 2 rfl rfl dL_closedWeeks_0 ?_
  refine q_iconst (pc := 1) hX (0) rfl dL_closedWeeks_1 ?_
  refine q_aload_n (pc := 2) hX 0 rfl rfl dL_closedWeeks_2 ?_
  refine q_iload_n (pc := 3) hX 1 rfl rfl dL_closedWeeks_3 ?_
  obtain ⟨r1, hr1, hE⟩ := ob_bind hE
  by_cases hkr1 : r1.1 = 0
  rotate_left
  · rw [if_pos hkr1] at hE
    by_cases hkr1_3 : r1.1 = 3
    · rw [if_pos hkr1_3] at hE
      refine q_callVx (pc := 4) (id := 28) (As := [.int x1]) (rest := [.int 0, .ref (o 0)]) hX (MI_x3 hkr1_3 (c_X6_closedWeeks hr1)) (vl_L_56) (lt46 (by decide)) rfl rfl rfl pd_yX6_closedWeeks rfl ⟨by decide, by decide⟩ ⟨by decide, by decide⟩ rfl (Nat.le_of_ble_eq_true rfl) dL_closedWeeks_4 ?_
      refine q_catch hX hE0 [] ⟨0, 9, 12, 21⟩ [] rfl (fun z hz => nomatch hz) (by decide) (by decide) kw_155 cast_3 (fun q2 => ?_)
      refine q_astore_n (pc := 12) (lo' := [(0, .ref (o 28)), (1, .int x1), (2, .ref (o 0)), (3, .ref q2)]) hX [1, 2, 3, 0] rfl (by decide) rfl dL_closedWeeks_12 ?_
      refine q_iconst (pc := 13) hX (1) rfl dL_closedWeeks_13 ?_
      cases hE
      exact q_iret hX hR (by decide) (by decide) dL_closedWeeks_14
    rw [if_neg hkr1_3] at hE
    cases hE
  rw [if_neg (fun h => h hkr1)] at hE
  refine q_callV (pc := 4) (id := 28) (As := [.int x1]) (rest := [.int 0, .ref (o 0)]) (rv := some (.int r1.2)) (st' := [.int r1.2, .int 0, .ref (o 0)]) hX (MI_0 hkr1 (c_X6_closedWeeks hr1)) (vl_L_56) (lt46 (by decide)) rfl rfl rfl pd_yX6_closedWeeks rfl ⟨by decide, by decide⟩ ⟨by decide, by decide⟩ rfl (Nat.le_of_ble_eq_true rfl) rfl dL_closedWeeks_4 ?_
  refine q_i2l (pc := 7) hX dL_closedWeeks_7 ?_
  obtain ⟨G3, hG3, hE⟩ := ob_bind hE
  refine r_last (pc := 8) (id := 0) (n := 1) hX (lt46 (by decide)) (fun _ _ => rfl) hG3 dL_closedWeeks_8 ?_
  refine q_goto (pc := 9) hX 15 (by decide) dL_closedWeeks_9 ?_
  refine q_iconst (pc := 15) hX (0) rfl dL_closedWeeks_15 ?_
  cases hE
  exact q_iret hX hR (by decide) (by decide) dL_closedWeeks_16

set_option maxHeartbeats 4000000 in
theorem c_L_earned {Y : Lx} {o : Nat → Nat} {hn : Nat} {M : Mem} {G : Mel} {x1 : Int32} {rr : Int32} {Gr : Mel} (hE : s_L_earned G hn x1 = some (rr, Gr)) : MIW Y yL_earned cL_earned 4 (some .int) [(0, 8, 11, 21)] 8 133 1 6 [.ref (o 28), .int x1, .ref (o 0)] o hn M G (.inl (some (.int rr))) M Gr := by
  refine MIW.of (by decide +kernel) (Nat.le_of_ble_eq_true rfl) (fun X hY hX hE0 hR => ?_)
  change CxOK X RL cL_earned 4 8 133 1 6 (some .int) at hX
  show WM X o hn M G 0 0 0 4 [(0, .ref (o 28)), (1, .int x1), (2, .ref (o 0))] []
  unfold s_L_earned at hE
  refine q_aload_n (pc := 0) hX 2 rfl rfl dL_earned_0 ?_
  refine q_iconst (pc := 1) hX (0) rfl dL_earned_1 ?_
  refine q_aload_n (pc := 2) hX 0 rfl rfl dL_earned_2 ?_
  refine q_iload_n (pc := 3) hX 1 rfl rfl dL_earned_3 ?_
  obtain ⟨r1, hr1, hE⟩ := ob_bind hE
  by_cases hkr1 : r1.1 = 0
  rotate_left
  · rw [if_pos hkr1] at hE
    by_cases hkr1_3 : r1.1 = 3
    · rw [if_pos hkr1_3] at hE
      refine q_callVx (pc := 4) (id := 28) (As := [.int x1]) (rest := [.int 0, .ref (o 0)]) hX (MI_x3 hkr1_3 (c_X6_earned hr1)) (vl_L_59) (lt46 (by decide)) rfl rfl rfl pd_yX6_earned rfl ⟨by decide, by decide⟩ ⟨by decide, by decide⟩ rfl (Nat.le_of_ble_eq_true rfl) dL_earned_4 ?_
      refine q_catch hX hE0 [] ⟨0, 8, 11, 21⟩ [] rfl (fun z hz => nomatch hz) (by decide) (by decide) kw_155 cast_3 (fun q2 => ?_)
      refine q_astore_n (pc := 11) (lo' := [(0, .ref (o 28)), (1, .int x1), (2, .ref (o 0)), (3, .ref q2)]) hX [1, 2, 3, 0] rfl (by decide) rfl dL_earned_11 ?_
      refine q_iconst (pc := 12) hX (1) rfl dL_earned_12 ?_
      cases hE
      exact q_iret hX hR (by decide) (by decide) dL_earned_13
    rw [if_neg hkr1_3] at hE
    cases hE
  rw [if_neg (fun h => h hkr1)] at hE
  refine q_callV (pc := 4) (id := 28) (As := [.int x1]) (rest := [.int 0, .ref (o 0)]) (rv := some (.long r1.2)) (st' := [.long r1.2, .int 0, .ref (o 0)]) hX (MI_0 hkr1 (c_X6_earned hr1)) (vl_L_59) (lt46 (by decide)) rfl rfl rfl pd_yX6_earned rfl ⟨by decide, by decide⟩ ⟨by decide, by decide⟩ rfl (Nat.le_of_ble_eq_true rfl) rfl dL_earned_4 ?_
  obtain ⟨G3, hG3, hE⟩ := ob_bind hE
  refine r_last (pc := 7) (id := 0) (n := 1) hX (lt46 (by decide)) (fun _ _ => rfl) hG3 dL_earned_7 ?_
  refine q_goto (pc := 8) hX 14 (by decide) dL_earned_8 ?_
  refine q_iconst (pc := 14) hX (0) rfl dL_earned_14 ?_
  cases hE
  exact q_iret hX hR (by decide) (by decide) dL_earned_15

set_option maxHeartbeats 4000000 in
theorem c_L_shifts {Y : Lx} {o : Nat → Nat} {hn : Nat} {M : Mem} {G : Mel} {x1 : Int32} {rr : Int32} {Mr : Mem} {Gr : Mel} (hE : s_L_shifts M G hn x1 = some (rr, Mr, Gr)) : MIW Y yL_shifts cL_shifts 4 (some .int) [(0, 9, 12, 21)] 8 133 1 6 [.ref (o 28), .int x1, .ref (o 0)] o hn M G (.inl (some (.int rr))) Mr Gr := by
  refine MIW.of (by decide +kernel) (Nat.le_of_ble_eq_true rfl) (fun X hY hX hE0 hR => ?_)
  change CxOK X RL cL_shifts 4 8 133 1 6 (some .int) at hX
  show WM X o hn M G 0 0 0 4 [(0, .ref (o 28)), (1, .int x1), (2, .ref (o 0))] []
  unfold s_L_shifts at hE
  refine q_aload_n (pc := 0) hX 2 rfl rfl dL_shifts_0 ?_
  refine q_iconst (pc := 1) hX (0) rfl dL_shifts_1 ?_
  refine q_aload_n (pc := 2) hX 0 rfl rfl dL_shifts_2 ?_
  refine q_iload_n (pc := 3) hX 1 rfl rfl dL_shifts_3 ?_
  obtain ⟨r1, hr1, hE⟩ := ob_bind hE
  by_cases hkr1 : r1.1 = 0
  rotate_left
  · rw [if_pos hkr1] at hE
    by_cases hkr1_3 : r1.1 = 3
    · rw [if_pos hkr1_3] at hE
      refine q_callVx (pc := 4) (id := 28) (As := [.int x1]) (rest := [.int 0, .ref (o 0)]) hX (MI_x3 hkr1_3 (c_X6_shifts hr1)) (vl_L_63) (lt46 (by decide)) rfl rfl rfl pd_yX6_shifts rfl ⟨by decide, by decide⟩ ⟨by decide, by decide⟩ rfl (Nat.le_of_ble_eq_true rfl) dL_shifts_4 ?_
      refine q_catch hX hE0 [] ⟨0, 9, 12, 21⟩ [] rfl (fun z hz => nomatch hz) (by decide) (by decide) kw_155 cast_3 (fun q2 => ?_)
      refine q_astore_n (pc := 12) (lo' := [(0, .ref (o 28)), (1, .int x1), (2, .ref (o 0)), (3, .ref q2)]) hX [1, 2, 3, 0] rfl (by decide) rfl dL_shifts_12 ?_
      refine q_iconst (pc := 13) hX (1) rfl dL_shifts_13 ?_
      cases hE
      exact q_iret hX hR (by decide) (by decide) dL_shifts_14
    rw [if_neg hkr1_3] at hE
    cases hE
  rw [if_neg (fun h => h hkr1)] at hE
  refine q_callV (pc := 4) (id := 28) (As := [.int x1]) (rest := [.int 0, .ref (o 0)]) (rv := some (.int r1.2.1)) (st' := [.int r1.2.1, .int 0, .ref (o 0)]) hX (MI_0 hkr1 (c_X6_shifts hr1)) (vl_L_63) (lt46 (by decide)) rfl rfl rfl pd_yX6_shifts rfl ⟨by decide, by decide⟩ ⟨by decide, by decide⟩ rfl (Nat.le_of_ble_eq_true rfl) rfl dL_shifts_4 ?_
  refine q_i2l (pc := 7) hX dL_shifts_7 ?_
  obtain ⟨G3, hG3, hE⟩ := ob_bind hE
  refine r_last (pc := 8) (id := 0) (n := 1) hX (lt46 (by decide)) (fun _ _ => rfl) hG3 dL_shifts_8 ?_
  refine q_goto (pc := 9) hX 15 (by decide) dL_shifts_9 ?_
  refine q_iconst (pc := 15) hX (0) rfl dL_shifts_15 ?_
  cases hE
  exact q_iret hX hR (by decide) (by decide) dL_shifts_16

set_option maxHeartbeats 4000000 in
theorem c_L_shiftBegin {Y : Lx} {o : Nat → Nat} {hn : Nat} {M : Mem} {G : Mel} {x1 : Int32} {x2 : Int32} {rr : Int32} {Mr : Mem} {Gr : Mel} (hE : s_L_shiftBegin M G hn x1 x2 = some (rr, Mr, Gr)) : MIW Y yL_shiftBegin cL_shiftBegin 5 (some .int) [(0, 10, 13, 21)] 8 134 2 12 [.ref (o 28), .int x1, .int x2, .ref (o 0)] o hn M G (.inl (some (.int rr))) Mr Gr := by
  refine MIW.of (by decide +kernel) (Nat.le_of_ble_eq_true rfl) (fun X hY hX hE0 hR => ?_)
  change CxOK X RL cL_shiftBegin 5 8 134 2 12 (some .int) at hX
  show WM X o hn M G 0 0 0 5 [(0, .ref (o 28)), (1, .int x1), (2, .int x2), (3, .ref (o 0))] []
  unfold s_L_shiftBegin at hE
  refine q_aload_n (pc := 0) hX 3 rfl rfl dL_shiftBegin_0 ?_
  refine q_iconst (pc := 1) hX (0) rfl dL_shiftBegin_1 ?_
  refine q_aload_n (pc := 2) hX 0 rfl rfl dL_shiftBegin_2 ?_
  refine q_iload_n (pc := 3) hX 1 rfl rfl dL_shiftBegin_3 ?_
  refine q_iload_n (pc := 4) hX 2 rfl rfl dL_shiftBegin_4 ?_
  obtain ⟨r1, hr1, hE⟩ := ob_bind hE
  by_cases hkr1 : r1.1 = 0
  rotate_left
  · rw [if_pos hkr1] at hE
    by_cases hkr1_3 : r1.1 = 3
    · rw [if_pos hkr1_3] at hE
      refine q_callVx (pc := 5) (id := 28) (As := [.int x1, .int x2]) (rest := [.int 0, .ref (o 0)]) hX (MI_x3 hkr1_3 (c_X6_shiftBegin hr1)) (vl_L_66) (lt46 (by decide)) rfl rfl rfl pd_yX6_shiftBegin rfl ⟨by decide, by decide⟩ ⟨by decide, by decide⟩ rfl (Nat.le_of_ble_eq_true rfl) dL_shiftBegin_5 ?_
      refine q_catch hX hE0 [] ⟨0, 10, 13, 21⟩ [] rfl (fun z hz => nomatch hz) (by decide) (by decide) kw_155 cast_3 (fun q2 => ?_)
      refine q_astore (pc := 13) (lo' := [(0, .ref (o 28)), (1, .int x1), (2, .int x2), (3, .ref (o 0)), (4, .ref q2)]) hX [1, 2, 3, 4, 0] (by decide) rfl dL_shiftBegin_13 ?_
      refine q_iconst (pc := 15) hX (1) rfl dL_shiftBegin_15 ?_
      cases hE
      exact q_iret hX hR (by decide) (by decide) dL_shiftBegin_16
    rw [if_neg hkr1_3] at hE
    cases hE
  rw [if_neg (fun h => h hkr1)] at hE
  refine q_callV (pc := 5) (id := 28) (As := [.int x1, .int x2]) (rest := [.int 0, .ref (o 0)]) (rv := some (.int r1.2.1)) (st' := [.int r1.2.1, .int 0, .ref (o 0)]) hX (MI_0 hkr1 (c_X6_shiftBegin hr1)) (vl_L_66) (lt46 (by decide)) rfl rfl rfl pd_yX6_shiftBegin rfl ⟨by decide, by decide⟩ ⟨by decide, by decide⟩ rfl (Nat.le_of_ble_eq_true rfl) rfl dL_shiftBegin_5 ?_
  refine q_i2l (pc := 8) hX dL_shiftBegin_8 ?_
  obtain ⟨G3, hG3, hE⟩ := ob_bind hE
  refine r_last (pc := 9) (id := 0) (n := 1) hX (lt46 (by decide)) (fun _ _ => rfl) hG3 dL_shiftBegin_9 ?_
  refine q_goto (pc := 10) hX 17 (by decide) dL_shiftBegin_10 ?_
  refine q_iconst (pc := 17) hX (0) rfl dL_shiftBegin_17 ?_
  cases hE
  exact q_iret hX hR (by decide) (by decide) dL_shiftBegin_18

set_option maxHeartbeats 4000000 in
theorem c_L_shiftEnd {Y : Lx} {o : Nat → Nat} {hn : Nat} {M : Mem} {G : Mel} {x1 : Int32} {x2 : Int32} {rr : Int32} {Mr : Mem} {Gr : Mel} (hE : s_L_shiftEnd M G hn x1 x2 = some (rr, Mr, Gr)) : MIW Y yL_shiftEnd cL_shiftEnd 5 (some .int) [(0, 10, 13, 21)] 8 134 2 12 [.ref (o 28), .int x1, .int x2, .ref (o 0)] o hn M G (.inl (some (.int rr))) Mr Gr := by
  refine MIW.of (by decide +kernel) (Nat.le_of_ble_eq_true rfl) (fun X hY hX hE0 hR => ?_)
  change CxOK X RL cL_shiftEnd 5 8 134 2 12 (some .int) at hX
  show WM X o hn M G 0 0 0 5 [(0, .ref (o 28)), (1, .int x1), (2, .int x2), (3, .ref (o 0))] []
  unfold s_L_shiftEnd at hE
  refine q_aload_n (pc := 0) hX 3 rfl rfl dL_shiftEnd_0 ?_
  refine q_iconst (pc := 1) hX (0) rfl dL_shiftEnd_1 ?_
  refine q_aload_n (pc := 2) hX 0 rfl rfl dL_shiftEnd_2 ?_
  refine q_iload_n (pc := 3) hX 1 rfl rfl dL_shiftEnd_3 ?_
  refine q_iload_n (pc := 4) hX 2 rfl rfl dL_shiftEnd_4 ?_
  obtain ⟨r1, hr1, hE⟩ := ob_bind hE
  by_cases hkr1 : r1.1 = 0
  rotate_left
  · rw [if_pos hkr1] at hE
    by_cases hkr1_3 : r1.1 = 3
    · rw [if_pos hkr1_3] at hE
      refine q_callVx (pc := 5) (id := 28) (As := [.int x1, .int x2]) (rest := [.int 0, .ref (o 0)]) hX (MI_x3 hkr1_3 (c_X6_shiftEnd hr1)) (vl_L_69) (lt46 (by decide)) rfl rfl rfl pd_yX6_shiftEnd rfl ⟨by decide, by decide⟩ ⟨by decide, by decide⟩ rfl (Nat.le_of_ble_eq_true rfl) dL_shiftEnd_5 ?_
      refine q_catch hX hE0 [] ⟨0, 10, 13, 21⟩ [] rfl (fun z hz => nomatch hz) (by decide) (by decide) kw_155 cast_3 (fun q2 => ?_)
      refine q_astore (pc := 13) (lo' := [(0, .ref (o 28)), (1, .int x1), (2, .int x2), (3, .ref (o 0)), (4, .ref q2)]) hX [1, 2, 3, 4, 0] (by decide) rfl dL_shiftEnd_13 ?_
      refine q_iconst (pc := 15) hX (1) rfl dL_shiftEnd_15 ?_
      cases hE
      exact q_iret hX hR (by decide) (by decide) dL_shiftEnd_16
    rw [if_neg hkr1_3] at hE
    cases hE
  rw [if_neg (fun h => h hkr1)] at hE
  refine q_callV (pc := 5) (id := 28) (As := [.int x1, .int x2]) (rest := [.int 0, .ref (o 0)]) (rv := some (.int r1.2.1)) (st' := [.int r1.2.1, .int 0, .ref (o 0)]) hX (MI_0 hkr1 (c_X6_shiftEnd hr1)) (vl_L_69) (lt46 (by decide)) rfl rfl rfl pd_yX6_shiftEnd rfl ⟨by decide, by decide⟩ ⟨by decide, by decide⟩ rfl (Nat.le_of_ble_eq_true rfl) rfl dL_shiftEnd_5 ?_
  refine q_i2l (pc := 8) hX dL_shiftEnd_8 ?_
  obtain ⟨G3, hG3, hE⟩ := ob_bind hE
  refine r_last (pc := 9) (id := 0) (n := 1) hX (lt46 (by decide)) (fun _ _ => rfl) hG3 dL_shiftEnd_9 ?_
  refine q_goto (pc := 10) hX 17 (by decide) dL_shiftEnd_10 ?_
  refine q_iconst (pc := 17) hX (0) rfl dL_shiftEnd_17 ?_
  cases hE
  exact q_iret hX hR (by decide) (by decide) dL_shiftEnd_18

set_option maxHeartbeats 4000000 in
theorem c_L_repairedShifts {Y : Lx} {o : Nat → Nat} {hn : Nat} {M : Mem} {G : Mel} {x1 : Int32} {rr : Int32} {Mr : Mem} {Gr : Mel} (hE : s_L_repairedShifts M G hn x1 = some (rr, Mr, Gr)) : MIW Y yL_repairedShifts cL_repairedShifts 4 (some .int) [(0, 9, 12, 21)] 8 133 1 6 [.ref (o 28), .int x1, .ref (o 0)] o hn M G (.inl (some (.int rr))) Mr Gr := by
  refine MIW.of (by decide +kernel) (Nat.le_of_ble_eq_true rfl) (fun X hY hX hE0 hR => ?_)
  change CxOK X RL cL_repairedShifts 4 8 133 1 6 (some .int) at hX
  show WM X o hn M G 0 0 0 4 [(0, .ref (o 28)), (1, .int x1), (2, .ref (o 0))] []
  unfold s_L_repairedShifts at hE
  refine q_aload_n (pc := 0) hX 2 rfl rfl dL_repairedShifts_0 ?_
  refine q_iconst (pc := 1) hX (0) rfl dL_repairedShifts_1 ?_
  refine q_aload_n (pc := 2) hX 0 rfl rfl dL_repairedShifts_2 ?_
  refine q_iload_n (pc := 3) hX 1 rfl rfl dL_repairedShifts_3 ?_
  obtain ⟨r1, hr1, hE⟩ := ob_bind hE
  by_cases hkr1 : r1.1 = 0
  rotate_left
  · rw [if_pos hkr1] at hE
    by_cases hkr1_3 : r1.1 = 3
    · rw [if_pos hkr1_3] at hE
      refine q_callVx (pc := 4) (id := 28) (As := [.int x1]) (rest := [.int 0, .ref (o 0)]) hX (MI_x3 hkr1_3 (c_X6_repairedShifts hr1)) (vl_L_72) (lt46 (by decide)) rfl rfl rfl pd_yX6_repairedShifts rfl ⟨by decide, by decide⟩ ⟨by decide, by decide⟩ rfl (Nat.le_of_ble_eq_true rfl) dL_repairedShifts_4 ?_
      refine q_catch hX hE0 [] ⟨0, 9, 12, 21⟩ [] rfl (fun z hz => nomatch hz) (by decide) (by decide) kw_155 cast_3 (fun q2 => ?_)
      refine q_astore_n (pc := 12) (lo' := [(0, .ref (o 28)), (1, .int x1), (2, .ref (o 0)), (3, .ref q2)]) hX [1, 2, 3, 0] rfl (by decide) rfl dL_repairedShifts_12 ?_
      refine q_iconst (pc := 13) hX (1) rfl dL_repairedShifts_13 ?_
      cases hE
      exact q_iret hX hR (by decide) (by decide) dL_repairedShifts_14
    rw [if_neg hkr1_3] at hE
    cases hE
  rw [if_neg (fun h => h hkr1)] at hE
  refine q_callV (pc := 4) (id := 28) (As := [.int x1]) (rest := [.int 0, .ref (o 0)]) (rv := some (.int r1.2.1)) (st' := [.int r1.2.1, .int 0, .ref (o 0)]) hX (MI_0 hkr1 (c_X6_repairedShifts hr1)) (vl_L_72) (lt46 (by decide)) rfl rfl rfl pd_yX6_repairedShifts rfl ⟨by decide, by decide⟩ ⟨by decide, by decide⟩ rfl (Nat.le_of_ble_eq_true rfl) rfl dL_repairedShifts_4 ?_
  refine q_i2l (pc := 7) hX dL_repairedShifts_7 ?_
  obtain ⟨G3, hG3, hE⟩ := ob_bind hE
  refine r_last (pc := 8) (id := 0) (n := 1) hX (lt46 (by decide)) (fun _ _ => rfl) hG3 dL_repairedShifts_8 ?_
  refine q_goto (pc := 9) hX 15 (by decide) dL_repairedShifts_9 ?_
  refine q_iconst (pc := 15) hX (0) rfl dL_repairedShifts_15 ?_
  cases hE
  exact q_iret hX hR (by decide) (by decide) dL_repairedShifts_16

set_option maxHeartbeats 4000000 in
theorem c_L_coverage {Y : Lx} {o : Nat → Nat} {hn : Nat} {M : Mem} {G : Mel} {x1 : Int32} {x2 : Int32} {rr : Int32} {Mr : Mem} {Gr : Mel} (hE : s_L_coverage M G hn x1 x2 = some (rr, Mr, Gr)) : MIW Y yL_coverage cL_coverage 5 (some .int) [(0, 10, 13, 21), (0, 10, 17, 13)] 8 135 2 12 [.ref (o 28), .int x1, .int x2, .ref (o 0)] o hn M G (.inl (some (.int rr))) Mr Gr := by
  refine MIW.of (by decide +kernel) (Nat.le_of_ble_eq_true rfl) (fun X hY hX hE0 hR => ?_)
  change CxOK X RL cL_coverage 5 8 135 2 12 (some .int) at hX
  show WM X o hn M G 0 0 0 5 [(0, .ref (o 28)), (1, .int x1), (2, .int x2), (3, .ref (o 0))] []
  unfold s_L_coverage at hE
  refine q_aload_n (pc := 0) hX 3 rfl rfl dL_coverage_0 ?_
  refine q_iconst (pc := 1) hX (0) rfl dL_coverage_1 ?_
  refine q_aload_n (pc := 2) hX 0 rfl rfl dL_coverage_2 ?_
  refine q_iload_n (pc := 3) hX 1 rfl rfl dL_coverage_3 ?_
  refine q_iload_n (pc := 4) hX 2 rfl rfl dL_coverage_4 ?_
  obtain ⟨r1, hr1, hE⟩ := ob_bind hE
  by_cases hkr1 : r1.1 = 0
  rotate_left
  · rw [if_pos hkr1] at hE
    by_cases hkr1_3 : r1.1 = 3
    · rw [if_pos hkr1_3] at hE
      refine q_callVx (pc := 5) (id := 28) (As := [.int x1, .int x2]) (rest := [.int 0, .ref (o 0)]) hX (MI_x3 hkr1_3 (c_X6_coverage hr1)) (vl_L_75) (lt46 (by decide)) rfl rfl rfl pd_yX6_coverage rfl ⟨by decide, by decide⟩ ⟨by decide, by decide⟩ rfl (Nat.le_of_ble_eq_true rfl) dL_coverage_5 ?_
      refine q_catch hX hE0 [] ⟨0, 10, 13, 21⟩ [⟨0, 10, 17, 13⟩] rfl (fun z hz => nomatch hz) (by decide) (by decide) kw_155 cast_3 (fun q2 => ?_)
      refine q_astore (pc := 13) (lo' := [(0, .ref (o 28)), (1, .int x1), (2, .int x2), (3, .ref (o 0)), (4, .ref q2)]) hX [1, 2, 3, 4, 0] (by decide) rfl dL_coverage_13 ?_
      refine q_iconst (pc := 15) hX (1) rfl dL_coverage_15 ?_
      cases hE
      exact q_iret hX hR (by decide) (by decide) dL_coverage_16
    rw [if_neg hkr1_3] at hE
    by_cases hkr1_1 : r1.1 = 1
    · rw [if_pos hkr1_1] at hE
      refine q_callVx (pc := 5) (id := 28) (As := [.int x1, .int x2]) (rest := [.int 0, .ref (o 0)]) hX (MI_x1 hkr1_1 (c_X6_coverage hr1)) (vl_L_75) (lt46 (by decide)) rfl rfl rfl pd_yX6_coverage rfl ⟨by decide, by decide⟩ ⟨by decide, by decide⟩ rfl (Nat.le_of_ble_eq_true rfl) dL_coverage_5 ?_
      refine q_catch hX hE0 [⟨0, 10, 13, 21⟩] ⟨0, 10, 17, 13⟩ [] rfl (fun z hz => (List.mem_cons.mp hz).elim (fun e => by subst e; exact ⟨by decide, eIOB, kw_155, by decide +kernel⟩) (fun hz => nomatch hz)) (by decide) (by decide) kw_111 cast_1 (fun q3 => ?_)
      refine q_astore (pc := 17) (lo' := [(0, .ref (o 28)), (1, .int x1), (2, .int x2), (3, .ref (o 0)), (4, .ref q3)]) hX [1, 2, 3, 4, 0] (by decide) rfl dL_coverage_17 ?_
      refine q_iconst (pc := 19) hX (2) rfl dL_coverage_19 ?_
      cases hE
      exact q_iret hX hR (by decide) (by decide) dL_coverage_20
    rw [if_neg hkr1_1] at hE
    cases hE
  rw [if_neg (fun h => h hkr1)] at hE
  refine q_callV (pc := 5) (id := 28) (As := [.int x1, .int x2]) (rest := [.int 0, .ref (o 0)]) (rv := some (.int r1.2.1)) (st' := [.int r1.2.1, .int 0, .ref (o 0)]) hX (MI_0 hkr1 (c_X6_coverage hr1)) (vl_L_75) (lt46 (by decide)) rfl rfl rfl pd_yX6_coverage rfl ⟨by decide, by decide⟩ ⟨by decide, by decide⟩ rfl (Nat.le_of_ble_eq_true rfl) rfl dL_coverage_5 ?_
  refine q_i2l (pc := 8) hX dL_coverage_8 ?_
  obtain ⟨G4, hG4, hE⟩ := ob_bind hE
  refine r_last (pc := 9) (id := 0) (n := 1) hX (lt46 (by decide)) (fun _ _ => rfl) hG4 dL_coverage_9 ?_
  refine q_goto (pc := 10) hX 21 (by decide) dL_coverage_10 ?_
  refine q_iconst (pc := 21) hX (0) rfl dL_coverage_21 ?_
  cases hE
  exact q_iret hX hR (by decide) (by decide) dL_coverage_22

set_option maxHeartbeats 4000000 in
theorem c_L_overlap {Y : Lx} {o : Nat → Nat} {hn : Nat} {M : Mem} {G : Mel} {x1 : Int32} {rr : Int32} {Mr : Mem} {Gr : Mel} (hE : s_L_overlap M G hn x1 = some (rr, Mr, Gr)) : MIW Y yL_overlap cL_overlap 4 (some .int) [(0, 9, 12, 21)] 8 137 1 6 [.ref (o 28), .int x1, .ref (o 0)] o hn M G (.inl (some (.int rr))) Mr Gr := by
  refine MIW.of (by decide +kernel) (Nat.le_of_ble_eq_true rfl) (fun X hY hX hE0 hR => ?_)
  change CxOK X RL cL_overlap 4 8 137 1 6 (some .int) at hX
  show WM X o hn M G 0 0 0 4 [(0, .ref (o 28)), (1, .int x1), (2, .ref (o 0))] []
  unfold s_L_overlap at hE
  refine q_aload_n (pc := 0) hX 2 rfl rfl dL_overlap_0 ?_
  refine q_iconst (pc := 1) hX (0) rfl dL_overlap_1 ?_
  refine q_aload_n (pc := 2) hX 0 rfl rfl dL_overlap_2 ?_
  refine q_iload_n (pc := 3) hX 1 rfl rfl dL_overlap_3 ?_
  obtain ⟨r1, hr1, hE⟩ := ob_bind hE
  by_cases hkr1 : r1.1 = 0
  rotate_left
  · rw [if_pos hkr1] at hE
    by_cases hkr1_3 : r1.1 = 3
    · rw [if_pos hkr1_3] at hE
      refine q_callVx (pc := 4) (id := 28) (As := [.int x1]) (rest := [.int 0, .ref (o 0)]) hX (MI_x3 hkr1_3 (c_X6_overlap hr1)) (vl_L_78) (lt46 (by decide)) rfl rfl rfl pd_yX6_overlap rfl ⟨by decide, by decide⟩ ⟨by decide, by decide⟩ rfl (Nat.le_of_ble_eq_true rfl) dL_overlap_4 ?_
      refine q_catch hX hE0 [] ⟨0, 9, 12, 21⟩ [] rfl (fun z hz => nomatch hz) (by decide) (by decide) kw_155 cast_3 (fun q2 => ?_)
      refine q_astore_n (pc := 12) (lo' := [(0, .ref (o 28)), (1, .int x1), (2, .ref (o 0)), (3, .ref q2)]) hX [1, 2, 3, 0] rfl (by decide) rfl dL_overlap_12 ?_
      refine q_iconst (pc := 13) hX (1) rfl dL_overlap_13 ?_
      cases hE
      exact q_iret hX hR (by decide) (by decide) dL_overlap_14
    rw [if_neg hkr1_3] at hE
    cases hE
  rw [if_neg (fun h => h hkr1)] at hE
  refine q_callV (pc := 4) (id := 28) (As := [.int x1]) (rest := [.int 0, .ref (o 0)]) (rv := some (.int r1.2.1)) (st' := [.int r1.2.1, .int 0, .ref (o 0)]) hX (MI_0 hkr1 (c_X6_overlap hr1)) (vl_L_78) (lt46 (by decide)) rfl rfl rfl pd_yX6_overlap rfl ⟨by decide, by decide⟩ ⟨by decide, by decide⟩ rfl (Nat.le_of_ble_eq_true rfl) rfl dL_overlap_4 ?_
  refine q_i2l (pc := 7) hX dL_overlap_7 ?_
  obtain ⟨G3, hG3, hE⟩ := ob_bind hE
  refine r_last (pc := 8) (id := 0) (n := 1) hX (lt46 (by decide)) (fun _ _ => rfl) hG3 dL_overlap_8 ?_
  refine q_goto (pc := 9) hX 15 (by decide) dL_overlap_9 ?_
  refine q_iconst (pc := 15) hX (0) rfl dL_overlap_15 ?_
  cases hE
  exact q_iret hX hR (by decide) (by decide) dL_overlap_16

set_option maxHeartbeats 4000000 in
theorem c_L_workedOn {Y : Lx} {o : Nat → Nat} {hn : Nat} {M : Mem} {G : Mel} {x1 : Int32} {x2 : Int32} {rr : Int32} {Mr : Mem} {Gr : Mel} (hE : s_L_workedOn M G hn x1 x2 = some (rr, Mr, Gr)) : MIW Y yL_workedOn cL_workedOn 5 (some .int) [(0, 10, 13, 21), (0, 10, 17, 13)] 8 139 2 12 [.ref (o 28), .int x1, .int x2, .ref (o 0)] o hn M G (.inl (some (.int rr))) Mr Gr := by
  refine MIW.of (by decide +kernel) (Nat.le_of_ble_eq_true rfl) (fun X hY hX hE0 hR => ?_)
  change CxOK X RL cL_workedOn 5 8 139 2 12 (some .int) at hX
  show WM X o hn M G 0 0 0 5 [(0, .ref (o 28)), (1, .int x1), (2, .int x2), (3, .ref (o 0))] []
  unfold s_L_workedOn at hE
  refine q_aload_n (pc := 0) hX 3 rfl rfl dL_workedOn_0 ?_
  refine q_iconst (pc := 1) hX (0) rfl dL_workedOn_1 ?_
  refine q_aload_n (pc := 2) hX 0 rfl rfl dL_workedOn_2 ?_
  refine q_iload_n (pc := 3) hX 1 rfl rfl dL_workedOn_3 ?_
  refine q_iload_n (pc := 4) hX 2 rfl rfl dL_workedOn_4 ?_
  obtain ⟨r1, hr1, hE⟩ := ob_bind hE
  by_cases hkr1 : r1.1 = 0
  rotate_left
  · rw [if_pos hkr1] at hE
    by_cases hkr1_3 : r1.1 = 3
    · rw [if_pos hkr1_3] at hE
      refine q_callVx (pc := 5) (id := 28) (As := [.int x1, .int x2]) (rest := [.int 0, .ref (o 0)]) hX (MI_x3 hkr1_3 (c_X6_workedOn hr1)) (vl_L_81) (lt46 (by decide)) rfl rfl rfl pd_yX6_workedOn rfl ⟨by decide, by decide⟩ ⟨by decide, by decide⟩ rfl (Nat.le_of_ble_eq_true rfl) dL_workedOn_5 ?_
      refine q_catch hX hE0 [] ⟨0, 10, 13, 21⟩ [⟨0, 10, 17, 13⟩] rfl (fun z hz => nomatch hz) (by decide) (by decide) kw_155 cast_3 (fun q2 => ?_)
      refine q_astore (pc := 13) (lo' := [(0, .ref (o 28)), (1, .int x1), (2, .int x2), (3, .ref (o 0)), (4, .ref q2)]) hX [1, 2, 3, 4, 0] (by decide) rfl dL_workedOn_13 ?_
      refine q_iconst (pc := 15) hX (1) rfl dL_workedOn_15 ?_
      cases hE
      exact q_iret hX hR (by decide) (by decide) dL_workedOn_16
    rw [if_neg hkr1_3] at hE
    by_cases hkr1_1 : r1.1 = 1
    · rw [if_pos hkr1_1] at hE
      refine q_callVx (pc := 5) (id := 28) (As := [.int x1, .int x2]) (rest := [.int 0, .ref (o 0)]) hX (MI_x1 hkr1_1 (c_X6_workedOn hr1)) (vl_L_81) (lt46 (by decide)) rfl rfl rfl pd_yX6_workedOn rfl ⟨by decide, by decide⟩ ⟨by decide, by decide⟩ rfl (Nat.le_of_ble_eq_true rfl) dL_workedOn_5 ?_
      refine q_catch hX hE0 [⟨0, 10, 13, 21⟩] ⟨0, 10, 17, 13⟩ [] rfl (fun z hz => (List.mem_cons.mp hz).elim (fun e => by subst e; exact ⟨by decide, eIOB, kw_155, by decide +kernel⟩) (fun hz => nomatch hz)) (by decide) (by decide) kw_111 cast_1 (fun q3 => ?_)
      refine q_astore (pc := 17) (lo' := [(0, .ref (o 28)), (1, .int x1), (2, .int x2), (3, .ref (o 0)), (4, .ref q3)]) hX [1, 2, 3, 4, 0] (by decide) rfl dL_workedOn_17 ?_
      refine q_iconst (pc := 19) hX (2) rfl dL_workedOn_19 ?_
      cases hE
      exact q_iret hX hR (by decide) (by decide) dL_workedOn_20
    rw [if_neg hkr1_1] at hE
    cases hE
  rw [if_neg (fun h => h hkr1)] at hE
  refine q_callV (pc := 5) (id := 28) (As := [.int x1, .int x2]) (rest := [.int 0, .ref (o 0)]) (rv := some (.int r1.2.1)) (st' := [.int r1.2.1, .int 0, .ref (o 0)]) hX (MI_0 hkr1 (c_X6_workedOn hr1)) (vl_L_81) (lt46 (by decide)) rfl rfl rfl pd_yX6_workedOn rfl ⟨by decide, by decide⟩ ⟨by decide, by decide⟩ rfl (Nat.le_of_ble_eq_true rfl) rfl dL_workedOn_5 ?_
  refine q_i2l (pc := 8) hX dL_workedOn_8 ?_
  obtain ⟨G4, hG4, hE⟩ := ob_bind hE
  refine r_last (pc := 9) (id := 0) (n := 1) hX (lt46 (by decide)) (fun _ _ => rfl) hG4 dL_workedOn_9 ?_
  refine q_goto (pc := 10) hX 21 (by decide) dL_workedOn_10 ?_
  refine q_iconst (pc := 21) hX (0) rfl dL_workedOn_21 ?_
  cases hE
  exact q_iret hX hR (by decide) (by decide) dL_workedOn_22

set_option maxHeartbeats 4000000 in
theorem c_L_stretches {Y : Lx} {o : Nat → Nat} {hn : Nat} {M : Mem} {G : Mel} {x1 : Int32} {rr : Int32} {Mr : Mem} {Gr : Mel} (hE : s_L_stretches M G hn x1 = some (rr, Mr, Gr)) : MIW Y yL_stretches cL_stretches 4 (some .int) [(0, 9, 12, 21)] 8 137 1 6 [.ref (o 28), .int x1, .ref (o 0)] o hn M G (.inl (some (.int rr))) Mr Gr := by
  refine MIW.of (by decide +kernel) (Nat.le_of_ble_eq_true rfl) (fun X hY hX hE0 hR => ?_)
  change CxOK X RL cL_stretches 4 8 137 1 6 (some .int) at hX
  show WM X o hn M G 0 0 0 4 [(0, .ref (o 28)), (1, .int x1), (2, .ref (o 0))] []
  unfold s_L_stretches at hE
  refine q_aload_n (pc := 0) hX 2 rfl rfl dL_stretches_0 ?_
  refine q_iconst (pc := 1) hX (0) rfl dL_stretches_1 ?_
  refine q_aload_n (pc := 2) hX 0 rfl rfl dL_stretches_2 ?_
  refine q_iload_n (pc := 3) hX 1 rfl rfl dL_stretches_3 ?_
  obtain ⟨r1, hr1, hE⟩ := ob_bind hE
  by_cases hkr1 : r1.1 = 0
  rotate_left
  · rw [if_pos hkr1] at hE
    by_cases hkr1_3 : r1.1 = 3
    · rw [if_pos hkr1_3] at hE
      refine q_callVx (pc := 4) (id := 28) (As := [.int x1]) (rest := [.int 0, .ref (o 0)]) hX (MI_x3 hkr1_3 (c_X6_stretches hr1)) (vl_L_84) (lt46 (by decide)) rfl rfl rfl pd_yX6_stretches rfl ⟨by decide, by decide⟩ ⟨by decide, by decide⟩ rfl (Nat.le_of_ble_eq_true rfl) dL_stretches_4 ?_
      refine q_catch hX hE0 [] ⟨0, 9, 12, 21⟩ [] rfl (fun z hz => nomatch hz) (by decide) (by decide) kw_155 cast_3 (fun q2 => ?_)
      refine q_astore_n (pc := 12) (lo' := [(0, .ref (o 28)), (1, .int x1), (2, .ref (o 0)), (3, .ref q2)]) hX [1, 2, 3, 0] rfl (by decide) rfl dL_stretches_12 ?_
      refine q_iconst (pc := 13) hX (1) rfl dL_stretches_13 ?_
      cases hE
      exact q_iret hX hR (by decide) (by decide) dL_stretches_14
    rw [if_neg hkr1_3] at hE
    cases hE
  rw [if_neg (fun h => h hkr1)] at hE
  refine q_callV (pc := 4) (id := 28) (As := [.int x1]) (rest := [.int 0, .ref (o 0)]) (rv := some (.int r1.2.1)) (st' := [.int r1.2.1, .int 0, .ref (o 0)]) hX (MI_0 hkr1 (c_X6_stretches hr1)) (vl_L_84) (lt46 (by decide)) rfl rfl rfl pd_yX6_stretches rfl ⟨by decide, by decide⟩ ⟨by decide, by decide⟩ rfl (Nat.le_of_ble_eq_true rfl) rfl dL_stretches_4 ?_
  refine q_i2l (pc := 7) hX dL_stretches_7 ?_
  obtain ⟨G3, hG3, hE⟩ := ob_bind hE
  refine r_last (pc := 8) (id := 0) (n := 1) hX (lt46 (by decide)) (fun _ _ => rfl) hG3 dL_stretches_8 ?_
  refine q_goto (pc := 9) hX 15 (by decide) dL_stretches_9 ?_
  refine q_iconst (pc := 15) hX (0) rfl dL_stretches_15 ?_
  cases hE
  exact q_iret hX hR (by decide) (by decide) dL_stretches_16

set_option maxHeartbeats 4000000 in
theorem c_L_longestStretch {Y : Lx} {o : Nat → Nat} {hn : Nat} {M : Mem} {G : Mel} {x1 : Int32} {rr : Int32} {Mr : Mem} {Gr : Mel} (hE : s_L_longestStretch M G hn x1 = some (rr, Mr, Gr)) : MIW Y yL_longestStretch cL_longestStretch 4 (some .int) [(0, 9, 12, 21)] 8 137 1 6 [.ref (o 28), .int x1, .ref (o 0)] o hn M G (.inl (some (.int rr))) Mr Gr := by
  refine MIW.of (by decide +kernel) (Nat.le_of_ble_eq_true rfl) (fun X hY hX hE0 hR => ?_)
  change CxOK X RL cL_longestStretch 4 8 137 1 6 (some .int) at hX
  show WM X o hn M G 0 0 0 4 [(0, .ref (o 28)), (1, .int x1), (2, .ref (o 0))] []
  unfold s_L_longestStretch at hE
  refine q_aload_n (pc := 0) hX 2 rfl rfl dL_longestStretch_0 ?_
  refine q_iconst (pc := 1) hX (0) rfl dL_longestStretch_1 ?_
  refine q_aload_n (pc := 2) hX 0 rfl rfl dL_longestStretch_2 ?_
  refine q_iload_n (pc := 3) hX 1 rfl rfl dL_longestStretch_3 ?_
  obtain ⟨r1, hr1, hE⟩ := ob_bind hE
  by_cases hkr1 : r1.1 = 0
  rotate_left
  · rw [if_pos hkr1] at hE
    by_cases hkr1_3 : r1.1 = 3
    · rw [if_pos hkr1_3] at hE
      refine q_callVx (pc := 4) (id := 28) (As := [.int x1]) (rest := [.int 0, .ref (o 0)]) hX (MI_x3 hkr1_3 (c_X6_longestStretch hr1)) (vl_L_87) (lt46 (by decide)) rfl rfl rfl pd_yX6_longestStretch rfl ⟨by decide, by decide⟩ ⟨by decide, by decide⟩ rfl (Nat.le_of_ble_eq_true rfl) dL_longestStretch_4 ?_
      refine q_catch hX hE0 [] ⟨0, 9, 12, 21⟩ [] rfl (fun z hz => nomatch hz) (by decide) (by decide) kw_155 cast_3 (fun q2 => ?_)
      refine q_astore_n (pc := 12) (lo' := [(0, .ref (o 28)), (1, .int x1), (2, .ref (o 0)), (3, .ref q2)]) hX [1, 2, 3, 0] rfl (by decide) rfl dL_longestStretch_12 ?_
      refine q_iconst (pc := 13) hX (1) rfl dL_longestStretch_13 ?_
      cases hE
      exact q_iret hX hR (by decide) (by decide) dL_longestStretch_14
    rw [if_neg hkr1_3] at hE
    cases hE
  rw [if_neg (fun h => h hkr1)] at hE
  refine q_callV (pc := 4) (id := 28) (As := [.int x1]) (rest := [.int 0, .ref (o 0)]) (rv := some (.int r1.2.1)) (st' := [.int r1.2.1, .int 0, .ref (o 0)]) hX (MI_0 hkr1 (c_X6_longestStretch hr1)) (vl_L_87) (lt46 (by decide)) rfl rfl rfl pd_yX6_longestStretch rfl ⟨by decide, by decide⟩ ⟨by decide, by decide⟩ rfl (Nat.le_of_ble_eq_true rfl) rfl dL_longestStretch_4 ?_
  refine q_i2l (pc := 7) hX dL_longestStretch_7 ?_
  obtain ⟨G3, hG3, hE⟩ := ob_bind hE
  refine r_last (pc := 8) (id := 0) (n := 1) hX (lt46 (by decide)) (fun _ _ => rfl) hG3 dL_longestStretch_8 ?_
  refine q_goto (pc := 9) hX 15 (by decide) dL_longestStretch_9 ?_
  refine q_iconst (pc := 15) hX (0) rfl dL_longestStretch_15 ?_
  cases hE
  exact q_iret hX hR (by decide) (by decide) dL_longestStretch_16

set_option maxHeartbeats 4000000 in
theorem c_L_category {Y : Lx} {o : Nat → Nat} {hn : Nat} {M : Mem} {G : Mel} {x1 : Int32} {x2 : Int32} {rr : Int32} {Mr : Mem} {Gr : Mel} (hE : s_L_category M G hn x1 x2 = some (rr, Mr, Gr)) : MIW Y yL_category cL_category 5 (some .int) [(0, 10, 13, 21), (0, 10, 17, 13)] 8 163 2 12 [.ref (o 28), .int x1, .int x2, .ref (o 0)] o hn M G (.inl (some (.int rr))) Mr Gr := by
  refine MIW.of (by decide +kernel) (Nat.le_of_ble_eq_true rfl) (fun X hY hX hE0 hR => ?_)
  change CxOK X RL cL_category 5 8 163 2 12 (some .int) at hX
  show WM X o hn M G 0 0 0 5 [(0, .ref (o 28)), (1, .int x1), (2, .int x2), (3, .ref (o 0))] []
  unfold s_L_category at hE
  refine q_aload_n (pc := 0) hX 3 rfl rfl dL_category_0 ?_
  refine q_iconst (pc := 1) hX (0) rfl dL_category_1 ?_
  refine q_aload_n (pc := 2) hX 0 rfl rfl dL_category_2 ?_
  refine q_iload_n (pc := 3) hX 1 rfl rfl dL_category_3 ?_
  refine q_iload_n (pc := 4) hX 2 rfl rfl dL_category_4 ?_
  obtain ⟨r1, hr1, hE⟩ := ob_bind hE
  by_cases hkr1 : r1.1 = 0
  rotate_left
  · rw [if_pos hkr1] at hE
    by_cases hkr1_3 : r1.1 = 3
    · rw [if_pos hkr1_3] at hE
      refine q_callVx (pc := 5) (id := 28) (As := [.int x1, .int x2]) (rest := [.int 0, .ref (o 0)]) hX (MI_x3 hkr1_3 (c_X6_category hr1)) (vl_L_90) (lt46 (by decide)) rfl rfl rfl pd_yX6_category rfl ⟨by decide, by decide⟩ ⟨by decide, by decide⟩ rfl (Nat.le_of_ble_eq_true rfl) dL_category_5 ?_
      refine q_catch hX hE0 [] ⟨0, 10, 13, 21⟩ [⟨0, 10, 17, 13⟩] rfl (fun z hz => nomatch hz) (by decide) (by decide) kw_155 cast_3 (fun q2 => ?_)
      refine q_astore (pc := 13) (lo' := [(0, .ref (o 28)), (1, .int x1), (2, .int x2), (3, .ref (o 0)), (4, .ref q2)]) hX [1, 2, 3, 4, 0] (by decide) rfl dL_category_13 ?_
      refine q_iconst (pc := 15) hX (1) rfl dL_category_15 ?_
      cases hE
      exact q_iret hX hR (by decide) (by decide) dL_category_16
    rw [if_neg hkr1_3] at hE
    by_cases hkr1_1 : r1.1 = 1
    · rw [if_pos hkr1_1] at hE
      refine q_callVx (pc := 5) (id := 28) (As := [.int x1, .int x2]) (rest := [.int 0, .ref (o 0)]) hX (MI_x1 hkr1_1 (c_X6_category hr1)) (vl_L_90) (lt46 (by decide)) rfl rfl rfl pd_yX6_category rfl ⟨by decide, by decide⟩ ⟨by decide, by decide⟩ rfl (Nat.le_of_ble_eq_true rfl) dL_category_5 ?_
      refine q_catch hX hE0 [⟨0, 10, 13, 21⟩] ⟨0, 10, 17, 13⟩ [] rfl (fun z hz => (List.mem_cons.mp hz).elim (fun e => by subst e; exact ⟨by decide, eIOB, kw_155, by decide +kernel⟩) (fun hz => nomatch hz)) (by decide) (by decide) kw_111 cast_1 (fun q3 => ?_)
      refine q_astore (pc := 17) (lo' := [(0, .ref (o 28)), (1, .int x1), (2, .int x2), (3, .ref (o 0)), (4, .ref q3)]) hX [1, 2, 3, 4, 0] (by decide) rfl dL_category_17 ?_
      refine q_iconst (pc := 19) hX (2) rfl dL_category_19 ?_
      cases hE
      exact q_iret hX hR (by decide) (by decide) dL_category_20
    rw [if_neg hkr1_1] at hE
    cases hE
  rw [if_neg (fun h => h hkr1)] at hE
  refine q_callV (pc := 5) (id := 28) (As := [.int x1, .int x2]) (rest := [.int 0, .ref (o 0)]) (rv := some (.int r1.2.1)) (st' := [.int r1.2.1, .int 0, .ref (o 0)]) hX (MI_0 hkr1 (c_X6_category hr1)) (vl_L_90) (lt46 (by decide)) rfl rfl rfl pd_yX6_category rfl ⟨by decide, by decide⟩ ⟨by decide, by decide⟩ rfl (Nat.le_of_ble_eq_true rfl) rfl dL_category_5 ?_
  refine q_i2l (pc := 8) hX dL_category_8 ?_
  obtain ⟨G4, hG4, hE⟩ := ob_bind hE
  refine r_last (pc := 9) (id := 0) (n := 1) hX (lt46 (by decide)) (fun _ _ => rfl) hG4 dL_category_9 ?_
  refine q_goto (pc := 10) hX 21 (by decide) dL_category_10 ?_
  refine q_iconst (pc := 21) hX (0) rfl dL_category_21 ?_
  cases hE
  exact q_iret hX hR (by decide) (by decide) dL_category_22

set_option maxHeartbeats 4000000 in
theorem c_L_minutes {Y : Lx} {o : Nat → Nat} {hn : Nat} {M : Mem} {G : Mel} {x1 : Int32} {x2 : Int32} {x3 : Int32} {rr : Int32} {Mr : Mem} {Gr : Mel} (hE : s_L_minutes M G hn x1 x2 x3 = some (rr, Mr, Gr)) : MIW Y yL_minutes cL_minutes 6 (some .int) [(0, 12, 15, 21), (0, 12, 19, 13)] 8 164 3 18 [.ref (o 28), .int x1, .int x2, .int x3, .ref (o 0)] o hn M G (.inl (some (.int rr))) Mr Gr := by
  refine MIW.of (by decide +kernel) (Nat.le_of_ble_eq_true rfl) (fun X hY hX hE0 hR => ?_)
  change CxOK X RL cL_minutes 6 8 164 3 18 (some .int) at hX
  show WM X o hn M G 0 0 0 6 [(0, .ref (o 28)), (1, .int x1), (2, .int x2), (3, .int x3), (4, .ref (o 0))] []
  unfold s_L_minutes at hE
  refine q_aload (pc := 0) hX 4 rfl dL_minutes_0 ?_
  refine q_iconst (pc := 2) hX (0) rfl dL_minutes_2 ?_
  refine q_aload_n (pc := 3) hX 0 rfl rfl dL_minutes_3 ?_
  refine q_iload_n (pc := 4) hX 1 rfl rfl dL_minutes_4 ?_
  refine q_iload_n (pc := 5) hX 2 rfl rfl dL_minutes_5 ?_
  refine q_iload_n (pc := 6) hX 3 rfl rfl dL_minutes_6 ?_
  obtain ⟨r1, hr1, hE⟩ := ob_bind hE
  by_cases hkr1 : r1.1 = 0
  rotate_left
  · rw [if_pos hkr1] at hE
    by_cases hkr1_3 : r1.1 = 3
    · rw [if_pos hkr1_3] at hE
      refine q_callVx (pc := 7) (id := 28) (As := [.int x1, .int x2, .int x3]) (rest := [.int 0, .ref (o 0)]) hX (MI_x3 hkr1_3 (c_X6_minutes hr1)) (vl_L_93) (lt46 (by decide)) rfl rfl rfl pd_yX6_minutes rfl ⟨by decide, by decide⟩ ⟨by decide, by decide⟩ rfl (Nat.le_of_ble_eq_true rfl) dL_minutes_7 ?_
      refine q_catch hX hE0 [] ⟨0, 12, 15, 21⟩ [⟨0, 12, 19, 13⟩] rfl (fun z hz => nomatch hz) (by decide) (by decide) kw_155 cast_3 (fun q2 => ?_)
      refine q_astore (pc := 15) (lo' := [(0, .ref (o 28)), (1, .int x1), (2, .int x2), (3, .int x3), (4, .ref (o 0)), (5, .ref q2)]) hX [1, 2, 3, 4, 5, 0] (by decide) rfl dL_minutes_15 ?_
      refine q_iconst (pc := 17) hX (1) rfl dL_minutes_17 ?_
      cases hE
      exact q_iret hX hR (by decide) (by decide) dL_minutes_18
    rw [if_neg hkr1_3] at hE
    by_cases hkr1_1 : r1.1 = 1
    · rw [if_pos hkr1_1] at hE
      refine q_callVx (pc := 7) (id := 28) (As := [.int x1, .int x2, .int x3]) (rest := [.int 0, .ref (o 0)]) hX (MI_x1 hkr1_1 (c_X6_minutes hr1)) (vl_L_93) (lt46 (by decide)) rfl rfl rfl pd_yX6_minutes rfl ⟨by decide, by decide⟩ ⟨by decide, by decide⟩ rfl (Nat.le_of_ble_eq_true rfl) dL_minutes_7 ?_
      refine q_catch hX hE0 [⟨0, 12, 15, 21⟩] ⟨0, 12, 19, 13⟩ [] rfl (fun z hz => (List.mem_cons.mp hz).elim (fun e => by subst e; exact ⟨by decide, eIOB, kw_155, by decide +kernel⟩) (fun hz => nomatch hz)) (by decide) (by decide) kw_111 cast_1 (fun q3 => ?_)
      refine q_astore (pc := 19) (lo' := [(0, .ref (o 28)), (1, .int x1), (2, .int x2), (3, .int x3), (4, .ref (o 0)), (5, .ref q3)]) hX [1, 2, 3, 4, 5, 0] (by decide) rfl dL_minutes_19 ?_
      refine q_iconst (pc := 21) hX (2) rfl dL_minutes_21 ?_
      cases hE
      exact q_iret hX hR (by decide) (by decide) dL_minutes_22
    rw [if_neg hkr1_1] at hE
    cases hE
  rw [if_neg (fun h => h hkr1)] at hE
  refine q_callV (pc := 7) (id := 28) (As := [.int x1, .int x2, .int x3]) (rest := [.int 0, .ref (o 0)]) (rv := some (.int r1.2.1)) (st' := [.int r1.2.1, .int 0, .ref (o 0)]) hX (MI_0 hkr1 (c_X6_minutes hr1)) (vl_L_93) (lt46 (by decide)) rfl rfl rfl pd_yX6_minutes rfl ⟨by decide, by decide⟩ ⟨by decide, by decide⟩ rfl (Nat.le_of_ble_eq_true rfl) rfl dL_minutes_7 ?_
  refine q_i2l (pc := 10) hX dL_minutes_10 ?_
  obtain ⟨G4, hG4, hE⟩ := ob_bind hE
  refine r_last (pc := 11) (id := 0) (n := 1) hX (lt46 (by decide)) (fun _ _ => rfl) hG4 dL_minutes_11 ?_
  refine q_goto (pc := 12) hX 23 (by decide) dL_minutes_12 ?_
  refine q_iconst (pc := 23) hX (0) rfl dL_minutes_23 ?_
  cases hE
  exact q_iret hX hR (by decide) (by decide) dL_minutes_24

set_option maxHeartbeats 4000000 in
theorem c_L_quarters {Y : Lx} {o : Nat → Nat} {hn : Nat} {M : Mem} {G : Mel} {x1 : Int32} {x2 : Int32} {x3 : Int32} {rr : Int32} {Mr : Mem} {Gr : Mel} (hE : s_L_quarters M G hn x1 x2 x3 = some (rr, Mr, Gr)) : MIW Y yL_quarters cL_quarters 6 (some .int) [(0, 12, 15, 21), (0, 12, 19, 13)] 8 164 3 18 [.ref (o 28), .int x1, .int x2, .int x3, .ref (o 0)] o hn M G (.inl (some (.int rr))) Mr Gr := by
  refine MIW.of (by decide +kernel) (Nat.le_of_ble_eq_true rfl) (fun X hY hX hE0 hR => ?_)
  change CxOK X RL cL_quarters 6 8 164 3 18 (some .int) at hX
  show WM X o hn M G 0 0 0 6 [(0, .ref (o 28)), (1, .int x1), (2, .int x2), (3, .int x3), (4, .ref (o 0))] []
  unfold s_L_quarters at hE
  refine q_aload (pc := 0) hX 4 rfl dL_quarters_0 ?_
  refine q_iconst (pc := 2) hX (0) rfl dL_quarters_2 ?_
  refine q_aload_n (pc := 3) hX 0 rfl rfl dL_quarters_3 ?_
  refine q_iload_n (pc := 4) hX 1 rfl rfl dL_quarters_4 ?_
  refine q_iload_n (pc := 5) hX 2 rfl rfl dL_quarters_5 ?_
  refine q_iload_n (pc := 6) hX 3 rfl rfl dL_quarters_6 ?_
  obtain ⟨r1, hr1, hE⟩ := ob_bind hE
  by_cases hkr1 : r1.1 = 0
  rotate_left
  · rw [if_pos hkr1] at hE
    by_cases hkr1_3 : r1.1 = 3
    · rw [if_pos hkr1_3] at hE
      refine q_callVx (pc := 7) (id := 28) (As := [.int x1, .int x2, .int x3]) (rest := [.int 0, .ref (o 0)]) hX (MI_x3 hkr1_3 (c_X6_quarters hr1)) (vl_L_96) (lt46 (by decide)) rfl rfl rfl pd_yX6_quarters rfl ⟨by decide, by decide⟩ ⟨by decide, by decide⟩ rfl (Nat.le_of_ble_eq_true rfl) dL_quarters_7 ?_
      refine q_catch hX hE0 [] ⟨0, 12, 15, 21⟩ [⟨0, 12, 19, 13⟩] rfl (fun z hz => nomatch hz) (by decide) (by decide) kw_155 cast_3 (fun q2 => ?_)
      refine q_astore (pc := 15) (lo' := [(0, .ref (o 28)), (1, .int x1), (2, .int x2), (3, .int x3), (4, .ref (o 0)), (5, .ref q2)]) hX [1, 2, 3, 4, 5, 0] (by decide) rfl dL_quarters_15 ?_
      refine q_iconst (pc := 17) hX (1) rfl dL_quarters_17 ?_
      cases hE
      exact q_iret hX hR (by decide) (by decide) dL_quarters_18
    rw [if_neg hkr1_3] at hE
    by_cases hkr1_1 : r1.1 = 1
    · rw [if_pos hkr1_1] at hE
      refine q_callVx (pc := 7) (id := 28) (As := [.int x1, .int x2, .int x3]) (rest := [.int 0, .ref (o 0)]) hX (MI_x1 hkr1_1 (c_X6_quarters hr1)) (vl_L_96) (lt46 (by decide)) rfl rfl rfl pd_yX6_quarters rfl ⟨by decide, by decide⟩ ⟨by decide, by decide⟩ rfl (Nat.le_of_ble_eq_true rfl) dL_quarters_7 ?_
      refine q_catch hX hE0 [⟨0, 12, 15, 21⟩] ⟨0, 12, 19, 13⟩ [] rfl (fun z hz => (List.mem_cons.mp hz).elim (fun e => by subst e; exact ⟨by decide, eIOB, kw_155, by decide +kernel⟩) (fun hz => nomatch hz)) (by decide) (by decide) kw_111 cast_1 (fun q3 => ?_)
      refine q_astore (pc := 19) (lo' := [(0, .ref (o 28)), (1, .int x1), (2, .int x2), (3, .int x3), (4, .ref (o 0)), (5, .ref q3)]) hX [1, 2, 3, 4, 5, 0] (by decide) rfl dL_quarters_19 ?_
      refine q_iconst (pc := 21) hX (2) rfl dL_quarters_21 ?_
      cases hE
      exact q_iret hX hR (by decide) (by decide) dL_quarters_22
    rw [if_neg hkr1_1] at hE
    cases hE
  rw [if_neg (fun h => h hkr1)] at hE
  refine q_callV (pc := 7) (id := 28) (As := [.int x1, .int x2, .int x3]) (rest := [.int 0, .ref (o 0)]) (rv := some (.int r1.2.1)) (st' := [.int r1.2.1, .int 0, .ref (o 0)]) hX (MI_0 hkr1 (c_X6_quarters hr1)) (vl_L_96) (lt46 (by decide)) rfl rfl rfl pd_yX6_quarters rfl ⟨by decide, by decide⟩ ⟨by decide, by decide⟩ rfl (Nat.le_of_ble_eq_true rfl) rfl dL_quarters_7 ?_
  refine q_i2l (pc := 10) hX dL_quarters_10 ?_
  obtain ⟨G4, hG4, hE⟩ := ob_bind hE
  refine r_last (pc := 11) (id := 0) (n := 1) hX (lt46 (by decide)) (fun _ _ => rfl) hG4 dL_quarters_11 ?_
  refine q_goto (pc := 12) hX 23 (by decide) dL_quarters_12 ?_
  refine q_iconst (pc := 23) hX (0) rfl dL_quarters_23 ?_
  cases hE
  exact q_iret hX hR (by decide) (by decide) dL_quarters_24

set_option maxHeartbeats 4000000 in
theorem c_L_premiumPay {Y : Lx} {o : Nat → Nat} {hn : Nat} {M : Mem} {G : Mel} {x1 : Int32} {rr : Int32} {Mr : Mem} {Gr : Mel} (hE : s_L_premiumPay M G hn x1 = some (rr, Mr, Gr)) : MIW Y yL_premiumPay cL_premiumPay 4 (some .int) [(0, 9, 12, 21)] 8 161 1 6 [.ref (o 28), .int x1, .ref (o 0)] o hn M G (.inl (some (.int rr))) Mr Gr := by
  refine MIW.of (by decide +kernel) (Nat.le_of_ble_eq_true rfl) (fun X hY hX hE0 hR => ?_)
  change CxOK X RL cL_premiumPay 4 8 161 1 6 (some .int) at hX
  show WM X o hn M G 0 0 0 4 [(0, .ref (o 28)), (1, .int x1), (2, .ref (o 0))] []
  unfold s_L_premiumPay at hE
  refine q_aload_n (pc := 0) hX 2 rfl rfl dL_premiumPay_0 ?_
  refine q_iconst (pc := 1) hX (0) rfl dL_premiumPay_1 ?_
  refine q_aload_n (pc := 2) hX 0 rfl rfl dL_premiumPay_2 ?_
  refine q_iload_n (pc := 3) hX 1 rfl rfl dL_premiumPay_3 ?_
  obtain ⟨r1, hr1, hE⟩ := ob_bind hE
  by_cases hkr1 : r1.1 = 0
  rotate_left
  · rw [if_pos hkr1] at hE
    by_cases hkr1_3 : r1.1 = 3
    · rw [if_pos hkr1_3] at hE
      refine q_callVx (pc := 4) (id := 28) (As := [.int x1]) (rest := [.int 0, .ref (o 0)]) hX (MI_x3 hkr1_3 (c_X6_premiumPay hr1)) (vl_L_99) (lt46 (by decide)) rfl rfl rfl pd_yX6_premiumPay rfl ⟨by decide, by decide⟩ ⟨by decide, by decide⟩ rfl (Nat.le_of_ble_eq_true rfl) dL_premiumPay_4 ?_
      refine q_catch hX hE0 [] ⟨0, 9, 12, 21⟩ [] rfl (fun z hz => nomatch hz) (by decide) (by decide) kw_155 cast_3 (fun q2 => ?_)
      refine q_astore_n (pc := 12) (lo' := [(0, .ref (o 28)), (1, .int x1), (2, .ref (o 0)), (3, .ref q2)]) hX [1, 2, 3, 0] rfl (by decide) rfl dL_premiumPay_12 ?_
      refine q_iconst (pc := 13) hX (1) rfl dL_premiumPay_13 ?_
      cases hE
      exact q_iret hX hR (by decide) (by decide) dL_premiumPay_14
    rw [if_neg hkr1_3] at hE
    cases hE
  rw [if_neg (fun h => h hkr1)] at hE
  refine q_callV (pc := 4) (id := 28) (As := [.int x1]) (rest := [.int 0, .ref (o 0)]) (rv := some (.int r1.2.1)) (st' := [.int r1.2.1, .int 0, .ref (o 0)]) hX (MI_0 hkr1 (c_X6_premiumPay hr1)) (vl_L_99) (lt46 (by decide)) rfl rfl rfl pd_yX6_premiumPay rfl ⟨by decide, by decide⟩ ⟨by decide, by decide⟩ rfl (Nat.le_of_ble_eq_true rfl) rfl dL_premiumPay_4 ?_
  refine q_i2l (pc := 7) hX dL_premiumPay_7 ?_
  obtain ⟨G3, hG3, hE⟩ := ob_bind hE
  refine r_last (pc := 8) (id := 0) (n := 1) hX (lt46 (by decide)) (fun _ _ => rfl) hG3 dL_premiumPay_8 ?_
  refine q_goto (pc := 9) hX 15 (by decide) dL_premiumPay_9 ?_
  refine q_iconst (pc := 15) hX (0) rfl dL_premiumPay_15 ?_
  cases hE
  exact q_iret hX hR (by decide) (by decide) dL_premiumPay_16

set_option maxHeartbeats 4000000 in
theorem c_L_pay {Y : Lx} {o : Nat → Nat} {hn : Nat} {M : Mem} {G : Mel} {x1 : Int32} {rr : Int32} {Mr : Mem} {Gr : Mel} (hE : s_L_pay M G hn x1 = some (rr, Mr, Gr)) : MIW Y yL_pay cL_pay 4 (some .int) [(0, 9, 12, 21)] 8 162 1 6 [.ref (o 28), .int x1, .ref (o 0)] o hn M G (.inl (some (.int rr))) Mr Gr := by
  refine MIW.of (by decide +kernel) (Nat.le_of_ble_eq_true rfl) (fun X hY hX hE0 hR => ?_)
  change CxOK X RL cL_pay 4 8 162 1 6 (some .int) at hX
  show WM X o hn M G 0 0 0 4 [(0, .ref (o 28)), (1, .int x1), (2, .ref (o 0))] []
  unfold s_L_pay at hE
  refine q_aload_n (pc := 0) hX 2 rfl rfl dL_pay_0 ?_
  refine q_iconst (pc := 1) hX (0) rfl dL_pay_1 ?_
  refine q_aload_n (pc := 2) hX 0 rfl rfl dL_pay_2 ?_
  refine q_iload_n (pc := 3) hX 1 rfl rfl dL_pay_3 ?_
  obtain ⟨r1, hr1, hE⟩ := ob_bind hE
  by_cases hkr1 : r1.1 = 0
  rotate_left
  · rw [if_pos hkr1] at hE
    by_cases hkr1_3 : r1.1 = 3
    · rw [if_pos hkr1_3] at hE
      refine q_callVx (pc := 4) (id := 28) (As := [.int x1]) (rest := [.int 0, .ref (o 0)]) hX (MI_x3 hkr1_3 (c_X6_pay hr1)) (vl_L_102) (lt46 (by decide)) rfl rfl rfl pd_yX6_pay rfl ⟨by decide, by decide⟩ ⟨by decide, by decide⟩ rfl (Nat.le_of_ble_eq_true rfl) dL_pay_4 ?_
      refine q_catch hX hE0 [] ⟨0, 9, 12, 21⟩ [] rfl (fun z hz => nomatch hz) (by decide) (by decide) kw_155 cast_3 (fun q2 => ?_)
      refine q_astore_n (pc := 12) (lo' := [(0, .ref (o 28)), (1, .int x1), (2, .ref (o 0)), (3, .ref q2)]) hX [1, 2, 3, 0] rfl (by decide) rfl dL_pay_12 ?_
      refine q_iconst (pc := 13) hX (1) rfl dL_pay_13 ?_
      cases hE
      exact q_iret hX hR (by decide) (by decide) dL_pay_14
    rw [if_neg hkr1_3] at hE
    cases hE
  rw [if_neg (fun h => h hkr1)] at hE
  refine q_callV (pc := 4) (id := 28) (As := [.int x1]) (rest := [.int 0, .ref (o 0)]) (rv := some (.int r1.2.1)) (st' := [.int r1.2.1, .int 0, .ref (o 0)]) hX (MI_0 hkr1 (c_X6_pay hr1)) (vl_L_102) (lt46 (by decide)) rfl rfl rfl pd_yX6_pay rfl ⟨by decide, by decide⟩ ⟨by decide, by decide⟩ rfl (Nat.le_of_ble_eq_true rfl) rfl dL_pay_4 ?_
  refine q_i2l (pc := 7) hX dL_pay_7 ?_
  obtain ⟨G3, hG3, hE⟩ := ob_bind hE
  refine r_last (pc := 8) (id := 0) (n := 1) hX (lt46 (by decide)) (fun _ _ => rfl) hG3 dL_pay_8 ?_
  refine q_goto (pc := 9) hX 15 (by decide) dL_pay_9 ?_
  refine q_iconst (pc := 15) hX (0) rfl dL_pay_15 ?_
  cases hE
  exact q_iret hX hR (by decide) (by decide) dL_pay_16

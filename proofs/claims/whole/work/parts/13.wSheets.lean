set_option maxHeartbeats 4000000 in
theorem c_X6_requireWithin {Y : Lx} {o : Nat → Nat} {hn : Nat} {M : Mem} {G : Mel} {x0 : Int32} {x1 : Int32} {x2 : Int32} {kr : Nat} (hE : s_X6_requireWithin x0 x1 x2 = some (kr)) : MI Y yX6_requireWithin cX6_requireWithin 3 none 6 90 1 6 [.int x0, .int x1, .int x2] o hn M G (rsOf kr (none)) M G := by
  refine MI.of (by decide +kernel) (Nat.le_of_ble_eq_true rfl) (fun X hY hX hE0 hR => ?_)
  change CxOK X RX6 cX6_requireWithin 3 6 90 1 6 none at hX
  show WM X o hn M G 0 0 0 3 [(0, .int x0), (1, .int x1), (2, .int x2)] []
  unfold s_X6_requireWithin at hE
  refine q_iload_n (pc := 0) hX 0 rfl rfl dX6_requireWithin_0 ?_
  refine q_iload_n (pc := 1) hX 1 rfl rfl dX6_requireWithin_1 ?_
  refine q_icmp_lt (pc := 2) hX 10 (by decide) dX6_requireWithin_2 (fun c => ?_) (fun c => ?_)
  · rw [if_pos c] at hE
    cases hE
    exact q_throwS (pc := 10) (E := eIAE) (text := "a value is out of range") (ik := 200) (is := 202) (ic := 204) hX hE0 hR kw_125 kw_126 (by decide) (by decide +kernel) at_1 ot_1 (by decide) (by decide) (Nat.le_of_ble_eq_true rfl) (by decide) (by decide) dX6_requireWithin_10 dX6_requireWithin_13 dX6_requireWithin_14 dX6_requireWithin_16 dX6_requireWithin_19
  · rw [if_neg c] at hE
    refine q_iload_n (pc := 5) hX 0 rfl rfl dX6_requireWithin_5 ?_
    refine q_iload_n (pc := 6) hX 2 rfl rfl dX6_requireWithin_6 ?_
    refine q_icmp_le (pc := 7) hX 20 (by decide) dX6_requireWithin_7 (fun c => ?_) (fun c => ?_)
    · rw [if_pos c] at hE
      cases hE
      exact q_vret hX hR (by decide) (by decide) dX6_requireWithin_20
    · rw [if_neg c] at hE
      cases hE
      exact q_throwS (pc := 10) (E := eIAE) (text := "a value is out of range") (ik := 200) (is := 202) (ic := 204) hX hE0 hR kw_125 kw_126 (by decide) (by decide +kernel) at_1 ot_1 (by decide) (by decide) (Nat.le_of_ble_eq_true rfl) (by decide) (by decide) dX6_requireWithin_10 dX6_requireWithin_13 dX6_requireWithin_14 dX6_requireWithin_16 dX6_requireWithin_19

set_option maxHeartbeats 4000000 in
theorem c_X6_find {Y : Lx} {o : Nat → Nat} {hn : Nat} {M : Mem} {G : Mel} {x1 : Int32} {kr : Nat} {rr : Nat} (hE : s_X6_find hn x1 = some (kr, rr)) : MI Y yX6_find cX6_find 3 (some (.object "Timesheets$Employee")) 6 90 1 6 [.ref (o 28), .int x1] o hn M G (rsOf kr (some (.ref (o rr)))) M G := by
  refine MI.of (by decide +kernel) (Nat.le_of_ble_eq_true rfl) (fun X hY hX hE0 hR => ?_)
  change CxOK X RX6 cX6_find 3 6 90 1 6 (some (.object "Timesheets$Employee")) at hX
  show WM X o hn M G 0 0 0 3 [(0, .ref (o 28)), (1, .int x1)] []
  unfold s_X6_find at hE
  refine q_iload_n (pc := 0) hX 1 rfl rfl dX6_find_0 ?_
  refine q_if_lt (pc := 1) hX 21 (by decide) dX6_find_1 (fun c => ?_) (fun c => ?_)
  · rw [if_pos c] at hE
    cases hE
    exact q_throwS (pc := 21) (E := eIOB) (text := "there is no such employee") (ik := 195) (is := 197) (ic := 199) hX hE0 hR kw_164 kw_165 (by decide) (by decide +kernel) at_3 ot_3 (by decide) (by decide) (Nat.le_of_ble_eq_true rfl) (by decide) (by decide) dX6_find_21 dX6_find_24 dX6_find_25 dX6_find_27 dX6_find_30
  · rw [if_neg c] at hE
    refine q_iload_n (pc := 4) hX 1 rfl rfl dX6_find_4 ?_
    refine q_aload_n (pc := 5) hX 0 rfl rfl dX6_find_5 ?_
    refine q_get (pc := 6) (id := 28) (ci := 6) (N := 6) (T := TX6) (C := RX6) hX 1 (lt46 (by decide)) rfl rfl in_X6 (by decide) (Or.inl kw_15) rfl dX6_find_6 ?_
    refine q_icmp_ge (pc := 9) hX 21 (by decide) dX6_find_9 (fun c => ?_) (fun c => ?_)
    · rw [if_pos c] at hE
      cases hE
      exact q_throwS (pc := 21) (E := eIOB) (text := "there is no such employee") (ik := 195) (is := 197) (ic := 199) hX hE0 hR kw_164 kw_165 (by decide) (by decide +kernel) at_3 ot_3 (by decide) (by decide) (Nat.le_of_ble_eq_true rfl) (by decide) (by decide) dX6_find_21 dX6_find_24 dX6_find_25 dX6_find_27 dX6_find_30
    · rw [if_neg c] at hE
      refine q_iload_n (pc := 12) hX 1 rfl rfl dX6_find_12 ?_
      refine q_aload_n (pc := 13) hX 0 rfl rfl dX6_find_13 ?_
      refine q_get (pc := 14) (id := 28) (ci := 6) (N := 6) (T := TX6) (C := RX6) hX 0 (lt46 (by decide)) rfl rfl in_X6 (by decide) (Or.inl kw_14) rfl dX6_find_14 ?_
      refine r_alenS (pc := 17) hX dX6_find_17 ?_
      refine q_icmp_lt (pc := 18) hX 31 (by decide) dX6_find_18 (fun c => ?_) (fun c => ?_)
      · rw [if_pos c] at hE
        refine q_aload_n (pc := 31) hX 0 rfl rfl dX6_find_31 ?_
        refine q_get (pc := 32) (id := 28) (ci := 6) (N := 6) (T := TX6) (C := RX6) hX 0 (lt46 (by decide)) rfl rfl in_X6 (by decide) (Or.inl kw_14) rfl dX6_find_32 ?_
        refine q_iload_n (pc := 35) hX 1 rfl rfl dX6_find_35 ?_
        obtain ⟨u1, hu1, hE⟩ := ob_bind hE
        refine r_aald (pc := 36) hX hu1 dX6_find_36 ?_
        have hemu1 := mrs_em hu1
        refine q_astore_n (pc := 37) (lo' := [(0, .ref (o 28)), (1, .int x1), (2, .ref (o u1))]) hX [1, 2, 0] rfl (by decide) rfl dX6_find_37 ?_
        refine q_aload_n (pc := 38) hX 2 rfl rfl dX6_find_38 ?_
        refine q_ifnonnull (pc := 39) hX 52 (by decide) dX6_find_39 ?_
        refine q_aload_n (pc := 52) hX 2 rfl rfl dX6_find_52 ?_
        cases hE
        exact q_aret hX hR (by decide) (by decide) dX6_find_53
      · rw [if_neg c] at hE
        cases hE
        exact q_throwS (pc := 21) (E := eIOB) (text := "there is no such employee") (ik := 195) (is := 197) (ic := 199) hX hE0 hR kw_164 kw_165 (by decide) (by decide +kernel) at_3 ot_3 (by decide) (by decide) (Nat.le_of_ble_eq_true rfl) (by decide) (by decide) dX6_find_21 dX6_find_24 dX6_find_25 dX6_find_27 dX6_find_30

set_option maxHeartbeats 4000000 in
theorem c_X6_setWage {Y : Lx} {o : Nat → Nat} {hn : Nat} {M : Mem} {G : Mel} {x1 : Int32} {x2 : Int32} {kr : Nat} {rr : Int32} {Mr : Mem} (hE : s_X6_setWage M hn x1 x2 = some (kr, rr, Mr)) : MI Y yX6_setWage cX6_setWage 5 (some .int) 7 112 2 12 [.ref (o 28), .int x1, .int x2] o hn M G (rsOf kr (some (.int rr))) Mr G := by
  refine MI.of (by decide +kernel) (Nat.le_of_ble_eq_true rfl) (fun X hY hX hE0 hR => ?_)
  change CxOK X RX6 cX6_setWage 5 7 112 2 12 (some .int) at hX
  show WM X o hn M G 0 0 0 5 [(0, .ref (o 28)), (1, .int x1), (2, .int x2)] []
  unfold s_X6_setWage at hE
  refine q_aload_n (pc := 0) hX 0 rfl rfl dX6_setWage_0 ?_
  refine q_iload_n (pc := 1) hX 1 rfl rfl dX6_setWage_1 ?_
  obtain ⟨r1, hr1, hE⟩ := ob_bind hE
  by_cases hkr1 : r1.1 = 0
  rotate_left
  · rw [if_pos hkr1] at hE
    refine q_callVx (pc := 2) (id := 28) (As := [.int x1]) (rest := []) hX (MI_x hkr1 (c_X6_find hr1)) (vl_X6_60) (lt46 (by decide)) rfl rfl rfl pd_yX6_find rfl ⟨by decide, by decide⟩ ⟨by decide, by decide⟩ rfl (Nat.le_of_ble_eq_true rfl) dX6_setWage_2 ?_
    cases hE
    exact q_out hX hE0 (CxR_x hkr1 hR) (by decide) (by decide)
  rw [if_neg (fun h => h hkr1)] at hE
  refine q_callV (pc := 2) (id := 28) (As := [.int x1]) (rest := []) (rv := some (.ref (o r1.2))) (st' := [.ref (o r1.2)]) hX (MI_0 hkr1 (c_X6_find hr1)) (vl_X6_60) (lt46 (by decide)) rfl rfl rfl pd_yX6_find rfl ⟨by decide, by decide⟩ ⟨by decide, by decide⟩ rfl (Nat.le_of_ble_eq_true rfl) rfl dX6_setWage_2 ?_
  have hemr1 := find_em hr1 hkr1
  refine q_astore_n (pc := 5) (lo' := [(0, .ref (o 28)), (1, .int x1), (2, .int x2), (3, .ref (o r1.2))]) hX [1, 2, 3, 0] rfl (by decide) rfl dX6_setWage_5 ?_
  refine q_iload_n (pc := 6) hX 2 rfl rfl dX6_setWage_6 ?_
  refine q_iconst (pc := 7) hX (1) rfl dX6_setWage_7 ?_
  refine q_ldc (pc := 8) hX kw_119 dX6_setWage_8 ?_
  obtain ⟨r2, hr2, hE⟩ := ob_bind hE
  by_cases hkr2 : r2 = 0
  rotate_left
  · rw [if_pos hkr2] at hE
    refine q_callSx (pc := 10) (As := [.int x2, .int 1, .int 100000]) (rest := []) hX (MI_x hkr2 (c_X6_requireWithin hr2)) (sl_X6_46) pd_yX6_requireWithin rfl ⟨by decide, by decide⟩ ⟨by decide, by decide⟩ rfl (Nat.le_of_ble_eq_true rfl) dX6_setWage_10 ?_
    cases hE
    exact q_out hX hE0 (CxR_x hkr2 hR) (by decide) (by decide)
  rw [if_neg (fun h => h hkr2)] at hE
  refine q_callS (pc := 10) (As := [.int x2, .int 1, .int 100000]) (rest := []) (rv := none) (st' := []) hX (MI_0 hkr2 (c_X6_requireWithin hr2)) (sl_X6_46) pd_yX6_requireWithin rfl ⟨by decide, by decide⟩ ⟨by decide, by decide⟩ rfl (Nat.le_of_ble_eq_true rfl) rfl dX6_setWage_10 ?_
  refine q_aload_n (pc := 13) hX 3 rfl rfl dX6_setWage_13 ?_
  refine q_get (pc := 14) (id := r1.2) (ci := 0) (N := 6) (T := TX0) (C := RX0) hX 0 (em_lt hemr1) (ob_E hemr1 _ _) rfl in_X0 (by decide) (Or.inr ⟨_, fn_X6_64⟩) rfl dX6_setWage_14 ?_
  refine q_nm (fun z3 hz3 => ?_)
  have hE := bnd_nm hz3 hE
  refine q_istore (pc := 17) (lo' := [(0, .ref (o 28)), (1, .int x1), (2, .int x2), (3, .ref (o r1.2)), (4, .int z3)]) hX [1, 2, 3, 4, 0] (by decide) rfl dX6_setWage_17 ?_
  refine q_aload_n (pc := 19) hX 3 rfl rfl dX6_setWage_19 ?_
  refine q_iload_n (pc := 20) hX 2 rfl rfl dX6_setWage_20 ?_
  obtain ⟨M4, hM4⟩ : ∃ z : Mem, z = mst M r1.2 0 x2 := ⟨_, rfl⟩
  have hE := bnd_nm hM4 hE
  refine pu_E_wage (pc := 21) hX hemr1 hM4 (Or.inr ⟨_, fn_X6_64⟩) dX6_setWage_21 ?_
  refine q_iload (pc := 24) hX 4 rfl dX6_setWage_24 ?_
  cases hE
  exact q_iret hX hR (by decide) (by decide) dX6_setWage_26

set_option maxHeartbeats 4000000 in
theorem c_X6_requireRoom {Y : Lx} {o : Nat → Nat} {hn : Nat} {M : Mem} {G : Mel} {t0 : Nat} {x1 : Int32} {kr : Nat} (ht0 : tb hn t0) (hE : s_X6_requireRoom M t0 x1 = some (kr)) : MI Y yX6_requireRoom cX6_requireRoom 2 none 6 90 1 6 [.ref (o t0), .int x1] o hn M G (rsOf kr (none)) M G := by
  refine MI.of (by decide +kernel) (Nat.le_of_ble_eq_true rfl) (fun X hY hX hE0 hR => ?_)
  change CxOK X RX6 cX6_requireRoom 2 6 90 1 6 none at hX
  show WM X o hn M G 0 0 0 2 [(0, .ref (o t0)), (1, .int x1)] []
  unfold s_X6_requireRoom at hE
  refine q_aload_n (pc := 0) hX 0 rfl rfl dX6_requireRoom_0 ?_
  obtain ⟨r1, hr1, hE⟩ := ob_bind hE
  refine q_callV (pc := 1) (id := t0) (As := []) (rest := []) (rv := some (.int r1)) (st' := [.int r1]) hX (c_X4_size ht0 hr1) (vl_X6_93) (tb_lt ht0) (ob_T ht0.1 _ _) rfl rfl pd_yX4_size rfl ⟨by decide, by decide⟩ ⟨by decide, by decide⟩ rfl (Nat.le_of_ble_eq_true rfl) rfl dX6_requireRoom_1 ?_
  refine q_iload_n (pc := 4) hX 1 rfl rfl dX6_requireRoom_4 ?_
  refine q_icmp_lt (pc := 5) hX 18 (by decide) dX6_requireRoom_5 (fun c => ?_) (fun c => ?_)
  · rw [if_pos c] at hE
    cases hE
    exact q_vret hX hR (by decide) (by decide) dX6_requireRoom_18
  · rw [if_neg c] at hE
    cases hE
    exact q_throwS (pc := 8) (E := eISE) (text := "there are as many as there may be already") (ik := 50) (is := 205) (ic := 54) hX hE0 hR kw_117 kw_118 (by decide) (by decide +kernel) at_2 ot_2 (by decide) (by decide) (Nat.le_of_ble_eq_true rfl) (by decide) (by decide) dX6_requireRoom_8 dX6_requireRoom_11 dX6_requireRoom_12 dX6_requireRoom_14 dX6_requireRoom_17

set_option maxHeartbeats 4000000 in
theorem l_X6_placeOfPunch_4 {X : Cx} (hX : CxOK X RX6 cX6_placeOfPunch 4 1 23 0 0 (some .int)) (hE0 : CxE X []) {o : Nat → Nat} {hn : Nat} {M : Mem} {t0 : Nat} {x1 : Int32} {G : Mel} (ht0 : tb hn t0) : ∀ (f : Nat) (y1 : Int32) (y2 : Int32) (p9 : Int32 × Int32), L_X6_placeOfPunch_4 M t0 x1 f y1 y2 = some p9 → WM X o hn M G 0 0 32 4 [(0, .ref (o t0)), (1, .int x1), (2, .int p9.1), (3, .int p9.2)] [] → WM X o hn M G 0 0 4 4 [(0, .ref (o t0)), (1, .int x1), (2, .int y1), (3, .int y2)] [] := by
  intro f
  induction f with
  | zero => intro y1 y2 p9 hE; simp [L_X6_placeOfPunch_4] at hE
  | succ f ih =>
    intro y1 y2 p9 hE hx
    rw [L_X6_placeOfPunch_4] at hE
    refine q_iload_n (pc := 4) hX 3 rfl rfl dX6_placeOfPunch_4 ?_
    refine q_aload_n (pc := 5) hX 0 rfl rfl dX6_placeOfPunch_5 ?_
    obtain ⟨r3, hr3, hE⟩ := ob_bind hE
    refine q_callV (pc := 6) (id := t0) (As := []) (rest := [.int y2]) (rv := some (.int r3)) (st' := [.int r3, .int y2]) hX (c_X4_size ht0 hr3) (vl_X6_93) (tb_lt ht0) (ob_T ht0.1 _ _) rfl rfl pd_yX4_size rfl ⟨by decide, by decide⟩ ⟨by decide, by decide⟩ rfl (Nat.le_of_ble_eq_true rfl) rfl dX6_placeOfPunch_6 ?_
    refine q_icmp_ge (pc := 9) hX 32 (by decide) dX6_placeOfPunch_9 (fun c => ?_) (fun c => ?_)
    · rw [if_pos c] at hE
      cases hE
      exact hx
    · rw [if_neg c] at hE
      refine q_aload_n (pc := 12) hX 0 rfl rfl dX6_placeOfPunch_12 ?_
      refine q_iload_n (pc := 13) hX 3 rfl rfl dX6_placeOfPunch_13 ?_
      refine q_iconst (pc := 14) hX (0) rfl dX6_placeOfPunch_14 ?_
      obtain ⟨r4, hr4, hE⟩ := ob_bind hE
      refine q_callV (pc := 15) (id := t0) (As := [.int y2, .int 0]) (rest := []) (rv := some (.int r4)) (st' := [.int r4]) hX (c_X4_get ht0 hr4) (vl_X6_102) (tb_lt ht0) (ob_T ht0.1 _ _) rfl rfl pd_yX4_get rfl ⟨by decide, by decide⟩ ⟨by decide, by decide⟩ rfl (Nat.le_of_ble_eq_true rfl) rfl dX6_placeOfPunch_15 ?_
      refine q_iload_n (pc := 18) hX 1 rfl rfl dX6_placeOfPunch_18 ?_
      obtain ⟨p7, hp7, hE⟩ := bnd_ob hE
      suffices Jp7 : WM X o hn M G 0 0 26 4 [(0, .ref (o t0)), (1, .int x1), (2, .int p7), (3, .int y2)] [] by
        refine q_icmp_ge (pc := 19) hX 26 (by decide) dX6_placeOfPunch_19 (fun c => ?_) (fun c => ?_)
        · rw [if_pos c] at hp7
          cases hp7
          exact Jp7
        · rw [if_neg c] at hp7
          refine q_iload_n (pc := 22) hX 3 rfl rfl dX6_placeOfPunch_22 ?_
          refine q_iconst (pc := 23) hX (1) rfl dX6_placeOfPunch_23 ?_
          refine q_iadd (pc := 24) hX dX6_placeOfPunch_24 ?_
          refine q_nm (fun z6 hz6 => ?_)
          have hp7 := bnd_nm hz6 hp7
          refine q_istore_n (pc := 25) (lo' := [(0, .ref (o t0)), (1, .int x1), (2, .int z6), (3, .int y2)]) hX [1, 2, 0, 3] rfl (by decide) rfl dX6_placeOfPunch_25 ?_
          cases hp7
          exact Jp7
      obtain ⟨z8, hz8⟩ : ∃ z : Int32, z = y2 + 1 := ⟨_, rfl⟩
      have hE := bnd_nm hz8 hE
      refine q_iinc (pc := 26) (lo' := [(0, .ref (o t0)), (1, .int x1), (2, .int p7), (3, .int z8)]) hX 3 z8 [1, 2, 3, 0] rfl (by rw [hz8]; rfl) (by decide) rfl dX6_placeOfPunch_26 ?_
      refine q_goto (pc := 29) hX 4 (by decide) dX6_placeOfPunch_29 ?_
      exact ih _ _ p9 hE hx

set_option maxHeartbeats 4000000 in
theorem c_X6_placeOfPunch {Y : Lx} {o : Nat → Nat} {hn : Nat} {M : Mem} {G : Mel} {t0 : Nat} {x1 : Int32} {rr : Int32} (ht0 : tb hn t0) (hE : s_X6_placeOfPunch M t0 x1 = some (rr)) : MI Y yX6_placeOfPunch cX6_placeOfPunch 4 (some .int) 1 23 0 0 [.ref (o t0), .int x1] o hn M G (.inl (some (.int rr))) M G := by
  refine MI.of (by decide +kernel) (Nat.le_of_ble_eq_true rfl) (fun X hY hX hE0 hR => ?_)
  change CxOK X RX6 cX6_placeOfPunch 4 1 23 0 0 (some .int) at hX
  show WM X o hn M G 0 0 0 4 [(0, .ref (o t0)), (1, .int x1)] []
  unfold s_X6_placeOfPunch at hE
  refine q_iconst (pc := 0) hX (0) rfl dX6_placeOfPunch_0 ?_
  refine q_istore_n (pc := 1) (lo' := [(0, .ref (o t0)), (1, .int x1), (2, .int 0)]) hX [1, 2, 0] rfl (by decide) rfl dX6_placeOfPunch_1 ?_
  refine q_iconst (pc := 2) hX (0) rfl dX6_placeOfPunch_2 ?_
  refine q_istore_n (pc := 3) (lo' := [(0, .ref (o t0)), (1, .int x1), (2, .int 0), (3, .int 0)]) hX [1, 2, 3, 0] rfl (by decide) rfl dX6_placeOfPunch_3 ?_
  obtain ⟨p9, hp9, hE⟩ := ob_bind hE
  refine l_X6_placeOfPunch_4 hX hE0 ht0 FU _ _ p9 hp9 ?_
  refine q_iload_n (pc := 32) hX 2 rfl rfl dX6_placeOfPunch_32 ?_
  cases hE
  exact q_iret hX hR (by decide) (by decide) dX6_placeOfPunch_33

set_option maxHeartbeats 4000000 in
theorem c_X6_isPunchAt {Y : Lx} {o : Nat → Nat} {hn : Nat} {M : Mem} {G : Mel} {t0 : Nat} {x1 : Int32} {x2 : Int32} {rr : Int32} (ht0 : tb hn t0) (hE : s_X6_isPunchAt M t0 x1 x2 = some (rr)) : MI Y yX6_isPunchAt cX6_isPunchAt 3 (some .boolean) 1 23 0 0 [.ref (o t0), .int x1, .int x2] o hn M G (.inl (some (.int rr))) M G := by
  refine MI.of (by decide +kernel) (Nat.le_of_ble_eq_true rfl) (fun X hY hX hE0 hR => ?_)
  change CxOK X RX6 cX6_isPunchAt 3 1 23 0 0 (some .boolean) at hX
  show WM X o hn M G 0 0 0 3 [(0, .ref (o t0)), (1, .int x1), (2, .int x2)] []
  unfold s_X6_isPunchAt at hE
  refine q_iload_n (pc := 0) hX 1 rfl rfl dX6_isPunchAt_0 ?_
  refine q_aload_n (pc := 1) hX 0 rfl rfl dX6_isPunchAt_1 ?_
  obtain ⟨r1, hr1, hE⟩ := ob_bind hE
  refine q_callV (pc := 2) (id := t0) (As := []) (rest := [.int x1]) (rv := some (.int r1)) (st' := [.int r1, .int x1]) hX (c_X4_size ht0 hr1) (vl_X6_93) (tb_lt ht0) (ob_T ht0.1 _ _) rfl rfl pd_yX4_size rfl ⟨by decide, by decide⟩ ⟨by decide, by decide⟩ rfl (Nat.le_of_ble_eq_true rfl) rfl dX6_isPunchAt_2 ?_
  refine q_icmp_ge (pc := 5) hX 22 (by decide) dX6_isPunchAt_5 (fun c => ?_) (fun c => ?_)
  · rw [if_pos c] at hE
    refine q_iconst (pc := 22) hX (0) rfl dX6_isPunchAt_22 ?_
    cases hE
    exact q_zret hX (Or.inl rfl) hR (by decide) (by decide) dX6_isPunchAt_23
  · rw [if_neg c] at hE
    refine q_aload_n (pc := 8) hX 0 rfl rfl dX6_isPunchAt_8 ?_
    refine q_iload_n (pc := 9) hX 1 rfl rfl dX6_isPunchAt_9 ?_
    refine q_iconst (pc := 10) hX (0) rfl dX6_isPunchAt_10 ?_
    obtain ⟨r2, hr2, hE⟩ := ob_bind hE
    refine q_callV (pc := 11) (id := t0) (As := [.int x1, .int 0]) (rest := []) (rv := some (.int r2)) (st' := [.int r2]) hX (c_X4_get ht0 hr2) (vl_X6_102) (tb_lt ht0) (ob_T ht0.1 _ _) rfl rfl pd_yX4_get rfl ⟨by decide, by decide⟩ ⟨by decide, by decide⟩ rfl (Nat.le_of_ble_eq_true rfl) rfl dX6_isPunchAt_11 ?_
    refine q_iload_n (pc := 14) hX 2 rfl rfl dX6_isPunchAt_14 ?_
    refine q_icmp_ne (pc := 15) hX 22 (by decide) dX6_isPunchAt_15 (fun c => ?_) (fun c => ?_)
    · rw [if_neg c] at hE
      refine q_iconst (pc := 22) hX (0) rfl dX6_isPunchAt_22 ?_
      cases hE
      exact q_zret hX (Or.inl rfl) hR (by decide) (by decide) dX6_isPunchAt_23
    · rw [if_pos c] at hE
      refine q_iconst (pc := 18) hX (1) rfl dX6_isPunchAt_18 ?_
      refine q_goto (pc := 19) hX 23 (by decide) dX6_isPunchAt_19 ?_
      cases hE
      exact q_zret hX (Or.inr rfl) hR (by decide) (by decide) dX6_isPunchAt_23

set_option maxHeartbeats 4000000 in
theorem c_X6_punch {Y : Lx} {o : Nat → Nat} {hn : Nat} {M : Mem} {G : Mel} {x1 : Int32} {x2 : Int32} {x3 : Int32} {kr : Nat} {rr : Int32} {Mr : Mem} (hE : s_X6_punch M hn x1 x2 x3 = some (kr, rr, Mr)) : MI Y yX6_punch cX6_punch 6 (some .int) 7 112 4 24 [.ref (o 28), .int x1, .int x2, .int x3] o hn M G (rsOf kr (some (.int rr))) Mr G := by
  refine MI.of (by decide +kernel) (Nat.le_of_ble_eq_true rfl) (fun X hY hX hE0 hR => ?_)
  change CxOK X RX6 cX6_punch 6 7 112 4 24 (some .int) at hX
  show WM X o hn M G 0 0 0 6 [(0, .ref (o 28)), (1, .int x1), (2, .int x2), (3, .int x3)] []
  unfold s_X6_punch at hE
  refine q_aload_n (pc := 0) hX 0 rfl rfl dX6_punch_0 ?_
  refine q_iload_n (pc := 1) hX 1 rfl rfl dX6_punch_1 ?_
  obtain ⟨r1, hr1, hE⟩ := ob_bind hE
  by_cases hkr1 : r1.1 = 0
  rotate_left
  · rw [if_pos hkr1] at hE
    refine q_callVx (pc := 2) (id := 28) (As := [.int x1]) (rest := []) hX (MI_x hkr1 (c_X6_find hr1)) (vl_X6_60) (lt46 (by decide)) rfl rfl rfl pd_yX6_find rfl ⟨by decide, by decide⟩ ⟨by decide, by decide⟩ rfl (Nat.le_of_ble_eq_true rfl) dX6_punch_2 ?_
    cases hE
    exact q_out hX hE0 (CxR_x hkr1 hR) (by decide) (by decide)
  rw [if_neg (fun h => h hkr1)] at hE
  refine q_callV (pc := 2) (id := 28) (As := [.int x1]) (rest := []) (rv := some (.ref (o r1.2))) (st' := [.ref (o r1.2)]) hX (MI_0 hkr1 (c_X6_find hr1)) (vl_X6_60) (lt46 (by decide)) rfl rfl rfl pd_yX6_find rfl ⟨by decide, by decide⟩ ⟨by decide, by decide⟩ rfl (Nat.le_of_ble_eq_true rfl) rfl dX6_punch_2 ?_
  have hemr1 := find_em hr1 hkr1
  refine q_get (pc := 5) (id := r1.2) (ci := 0) (N := 6) (T := TX0) (C := RX0) hX 3 (em_lt hemr1) (ob_E hemr1 _ _) rfl in_X0 (by decide) (Or.inr ⟨_, fn_X6_67⟩) rfl dX6_punch_5 ?_
  refine q_astore (pc := 8) (lo' := [(0, .ref (o 28)), (1, .int x1), (2, .int x2), (3, .int x3), (4, .ref (o (r1.2 + 1)))]) hX [1, 2, 3, 4, 0] (by decide) rfl dX6_punch_8 ?_
  refine q_iload_n (pc := 10) hX 2 rfl rfl dX6_punch_10 ?_
  refine q_iconst (pc := 11) hX (0) rfl dX6_punch_11 ?_
  refine q_sipush (pc := 12) hX (10080) (by decide) dX6_punch_12 ?_
  obtain ⟨r2, hr2, hE⟩ := ob_bind hE
  by_cases hkr2 : r2 = 0
  rotate_left
  · rw [if_pos hkr2] at hE
    refine q_callSx (pc := 15) (As := [.int x2, .int 0, .int 10080]) (rest := []) hX (MI_x hkr2 (c_X6_requireWithin hr2)) (sl_X6_46) pd_yX6_requireWithin rfl ⟨by decide, by decide⟩ ⟨by decide, by decide⟩ rfl (Nat.le_of_ble_eq_true rfl) dX6_punch_15 ?_
    cases hE
    exact q_out hX hE0 (CxR_x hkr2 hR) (by decide) (by decide)
  rw [if_neg (fun h => h hkr2)] at hE
  refine q_callS (pc := 15) (As := [.int x2, .int 0, .int 10080]) (rest := []) (rv := none) (st' := []) hX (MI_0 hkr2 (c_X6_requireWithin hr2)) (sl_X6_46) pd_yX6_requireWithin rfl ⟨by decide, by decide⟩ ⟨by decide, by decide⟩ rfl (Nat.le_of_ble_eq_true rfl) rfl dX6_punch_15 ?_
  refine q_aload (pc := 18) hX 4 rfl dX6_punch_18 ?_
  refine q_bipush (pc := 20) hX (40) (by decide) dX6_punch_20 ?_
  obtain ⟨r3, hr3, hE⟩ := ob_bind hE
  by_cases hkr3 : r3 = 0
  rotate_left
  · rw [if_pos hkr3] at hE
    refine q_callSx (pc := 22) (As := [.ref (o (r1.2 + 1)), .int 40]) (rest := []) hX (MI_x hkr3 (c_X6_requireRoom (tb_e1 hemr1) hr3)) (sl_X6_71) pd_yX6_requireRoom rfl ⟨by decide, by decide⟩ ⟨by decide, by decide⟩ rfl (Nat.le_of_ble_eq_true rfl) dX6_punch_22 ?_
    cases hE
    exact q_out hX hE0 (CxR_x hkr3 hR) (by decide) (by decide)
  rw [if_neg (fun h => h hkr3)] at hE
  refine q_callS (pc := 22) (As := [.ref (o (r1.2 + 1)), .int 40]) (rest := []) (rv := none) (st' := []) hX (MI_0 hkr3 (c_X6_requireRoom (tb_e1 hemr1) hr3)) (sl_X6_71) pd_yX6_requireRoom rfl ⟨by decide, by decide⟩ ⟨by decide, by decide⟩ rfl (Nat.le_of_ble_eq_true rfl) rfl dX6_punch_22 ?_
  refine q_aload (pc := 25) hX 4 rfl dX6_punch_25 ?_
  refine q_iload_n (pc := 27) hX 2 rfl rfl dX6_punch_27 ?_
  obtain ⟨r4, hr4, hE⟩ := ob_bind hE
  refine q_callS (pc := 28) (As := [.ref (o (r1.2 + 1)), .int x2]) (rest := []) (rv := some (.int r4)) (st' := [.int r4]) hX (c_X6_placeOfPunch (tb_e1 hemr1) hr4) (sl_X6_75) pd_yX6_placeOfPunch rfl ⟨by decide, by decide⟩ ⟨by decide, by decide⟩ rfl (Nat.le_of_ble_eq_true rfl) rfl dX6_punch_28 ?_
  refine q_istore (pc := 31) (lo' := [(0, .ref (o 28)), (1, .int x1), (2, .int x2), (3, .int x3), (4, .ref (o (r1.2 + 1))), (5, .int r4)]) hX [1, 2, 3, 4, 5, 0] (by decide) rfl dX6_punch_31 ?_
  refine q_aload (pc := 33) hX 4 rfl dX6_punch_33 ?_
  refine q_iload (pc := 35) hX 5 rfl dX6_punch_35 ?_
  refine q_iload_n (pc := 37) hX 2 rfl rfl dX6_punch_37 ?_
  obtain ⟨r5, hr5, hE⟩ := ob_bind hE
  refine q_callS (pc := 38) (As := [.ref (o (r1.2 + 1)), .int r4, .int x2]) (rest := []) (rv := some (.int r5)) (st' := [.int r5]) hX (c_X6_isPunchAt (tb_e1 hemr1) hr5) (sl_X6_79) pd_yX6_isPunchAt rfl ⟨by decide, by decide⟩ ⟨by decide, by decide⟩ rfl (Nat.le_of_ble_eq_true rfl) rfl dX6_punch_38 ?_
  refine q_if_eq (pc := 41) hX 54 (by decide) dX6_punch_41 (fun c => ?_) (fun c => ?_)
  · rw [if_pos c] at hE
    refine q_aload (pc := 54) hX 4 rfl dX6_punch_54 ?_
    refine q_iload (pc := 56) hX 5 rfl dX6_punch_56 ?_
    obtain ⟨r6, hr6, hE⟩ := ob_bind hE
    refine q_callV (pc := 58) (id := (r1.2 + 1)) (As := [.int r4]) (rest := []) (rv := none) (st' := []) hX (c_X4_insert (tb_e1 hemr1) hr6) (vl_X6_85) (tb_lt (tb_e1 hemr1)) (ob_T (tb_e1 hemr1).1 _ _) rfl rfl pd_yX4_insert rfl ⟨by decide, by decide⟩ ⟨by decide, by decide⟩ rfl (Nat.le_of_ble_eq_true rfl) rfl dX6_punch_58 ?_
    refine q_aload (pc := 61) hX 4 rfl dX6_punch_61 ?_
    refine q_iload (pc := 63) hX 5 rfl dX6_punch_63 ?_
    refine q_iconst (pc := 65) hX (0) rfl dX6_punch_65 ?_
    refine q_iload_n (pc := 66) hX 2 rfl rfl dX6_punch_66 ?_
    obtain ⟨r7, hr7, hE⟩ := ob_bind hE
    refine q_callV (pc := 67) (id := (r1.2 + 1)) (As := [.int r4, .int 0, .int x2]) (rest := []) (rv := none) (st' := []) hX (c_X4_set (tb_e1 hemr1) hr7) (vl_X6_90) (tb_lt (tb_e1 hemr1)) (ob_T (tb_e1 hemr1).1 _ _) rfl rfl pd_yX4_set rfl ⟨by decide, by decide⟩ ⟨by decide, by decide⟩ rfl (Nat.le_of_ble_eq_true rfl) rfl dX6_punch_67 ?_
    refine q_aload (pc := 70) hX 4 rfl dX6_punch_70 ?_
    refine q_iload (pc := 72) hX 5 rfl dX6_punch_72 ?_
    refine q_iconst (pc := 74) hX (1) rfl dX6_punch_74 ?_
    refine q_iload_n (pc := 75) hX 3 rfl rfl dX6_punch_75 ?_
    obtain ⟨p9, hp9, hE⟩ := bnd_ob hE
    suffices Jp9 : WM X o hn r7 G 3 18 84 6 [(4, .ref (o (r1.2 + 1)))] [.int p9, .int 1, .int r4, .ref (o (r1.2 + 1))] by
      refine q_if_eq (pc := 76) hX 83 (by decide) dX6_punch_76 (fun c => ?_) (fun c => ?_)
      · rw [if_pos c] at hp9
        refine q_iconst (pc := 83) hX (0) rfl dX6_punch_83 ?_
        refine q_lo [4] rfl ?_
        cases hp9
        exact Jp9
      · rw [if_neg c] at hp9
        refine q_iconst (pc := 79) hX (1) rfl dX6_punch_79 ?_
        refine q_goto (pc := 80) hX 84 (by decide) dX6_punch_80 ?_
        refine q_lo [4] rfl ?_
        cases hp9
        exact Jp9
    obtain ⟨r10, hr10, hE⟩ := ob_bind hE
    refine q_callV (pc := 84) (id := (r1.2 + 1)) (As := [.int r4, .int 1, .int p9]) (rest := []) (rv := none) (st' := []) hX (c_X4_set (tb_e1 hemr1) hr10) (vl_X6_90) (tb_lt (tb_e1 hemr1)) (ob_T (tb_e1 hemr1).1 _ _) rfl rfl pd_yX4_set rfl ⟨by decide, by decide⟩ ⟨by decide, by decide⟩ rfl (Nat.le_of_ble_eq_true rfl) rfl dX6_punch_84 ?_
    refine q_aload (pc := 87) hX 0 rfl dX6_punch_87 ?_
    obtain ⟨r11, hr11, hE⟩ := ob_bind hE
    refine q_callV (pc := 89) (id := (r1.2 + 1)) (As := []) (rest := []) (rv := some (.int r11)) (st' := [.int r11]) hX (c_X4_size (tb_e1 hemr1) hr11) (vl_X6_93) (tb_lt (tb_e1 hemr1)) (ob_T (tb_e1 hemr1).1 _ _) rfl rfl pd_yX4_size rfl ⟨by decide, by decide⟩ ⟨by decide, by decide⟩ rfl (Nat.le_of_ble_eq_true rfl) rfl dX6_punch_89 ?_
    cases hE
    exact q_iret hX hR (by decide) (by decide) dX6_punch_92
  · rw [if_neg c] at hE
    cases hE
    exact q_throwS (pc := 44) (E := eISE) (text := "there is a punch at this time already") (ik := 50) (is := 83) (ic := 54) hX hE0 hR kw_117 kw_118 (by decide) (by decide +kernel) at_2 ot_2 (by decide) (by decide) (Nat.le_of_ble_eq_true rfl) (by decide) (by decide) dX6_punch_44 dX6_punch_47 dX6_punch_48 dX6_punch_50 dX6_punch_53

set_option maxHeartbeats 4000000 in
theorem c_X6_removePunch {Y : Lx} {o : Nat → Nat} {hn : Nat} {M : Mem} {G : Mel} {x1 : Int32} {x2 : Int32} {kr : Nat} {rr : Int32} {Mr : Mem} (hE : s_X6_removePunch M hn x1 x2 = some (kr, rr, Mr)) : MI Y yX6_removePunch cX6_removePunch 6 (some .boolean) 7 112 2 12 [.ref (o 28), .int x1, .int x2] o hn M G (rsOf kr (some (.int rr))) Mr G := by
  refine MI.of (by decide +kernel) (Nat.le_of_ble_eq_true rfl) (fun X hY hX hE0 hR => ?_)
  change CxOK X RX6 cX6_removePunch 6 7 112 2 12 (some .boolean) at hX
  show WM X o hn M G 0 0 0 6 [(0, .ref (o 28)), (1, .int x1), (2, .int x2)] []
  unfold s_X6_removePunch at hE
  refine q_aload_n (pc := 0) hX 0 rfl rfl dX6_removePunch_0 ?_
  refine q_iload_n (pc := 1) hX 1 rfl rfl dX6_removePunch_1 ?_
  obtain ⟨r1, hr1, hE⟩ := ob_bind hE
  by_cases hkr1 : r1.1 = 0
  rotate_left
  · rw [if_pos hkr1] at hE
    refine q_callVx (pc := 2) (id := 28) (As := [.int x1]) (rest := []) hX (MI_x hkr1 (c_X6_find hr1)) (vl_X6_60) (lt46 (by decide)) rfl rfl rfl pd_yX6_find rfl ⟨by decide, by decide⟩ ⟨by decide, by decide⟩ rfl (Nat.le_of_ble_eq_true rfl) dX6_removePunch_2 ?_
    cases hE
    exact q_out hX hE0 (CxR_x hkr1 hR) (by decide) (by decide)
  rw [if_neg (fun h => h hkr1)] at hE
  refine q_callV (pc := 2) (id := 28) (As := [.int x1]) (rest := []) (rv := some (.ref (o r1.2))) (st' := [.ref (o r1.2)]) hX (MI_0 hkr1 (c_X6_find hr1)) (vl_X6_60) (lt46 (by decide)) rfl rfl rfl pd_yX6_find rfl ⟨by decide, by decide⟩ ⟨by decide, by decide⟩ rfl (Nat.le_of_ble_eq_true rfl) rfl dX6_removePunch_2 ?_
  have hemr1 := find_em hr1 hkr1
  refine q_get (pc := 5) (id := r1.2) (ci := 0) (N := 6) (T := TX0) (C := RX0) hX 3 (em_lt hemr1) (ob_E hemr1 _ _) rfl in_X0 (by decide) (Or.inr ⟨_, fn_X6_67⟩) rfl dX6_removePunch_5 ?_
  refine q_astore_n (pc := 8) (lo' := [(0, .ref (o 28)), (1, .int x1), (2, .int x2), (3, .ref (o (r1.2 + 1)))]) hX [1, 2, 3, 0] rfl (by decide) rfl dX6_removePunch_8 ?_
  refine q_aload_n (pc := 9) hX 3 rfl rfl dX6_removePunch_9 ?_
  refine q_iload_n (pc := 10) hX 2 rfl rfl dX6_removePunch_10 ?_
  obtain ⟨r2, hr2, hE⟩ := ob_bind hE
  refine q_callS (pc := 11) (As := [.ref (o (r1.2 + 1)), .int x2]) (rest := []) (rv := some (.int r2)) (st' := [.int r2]) hX (c_X6_placeOfPunch (tb_e1 hemr1) hr2) (sl_X6_75) pd_yX6_placeOfPunch rfl ⟨by decide, by decide⟩ ⟨by decide, by decide⟩ rfl (Nat.le_of_ble_eq_true rfl) rfl dX6_removePunch_11 ?_
  refine q_istore (pc := 14) (lo' := [(0, .ref (o 28)), (1, .int x1), (2, .int x2), (3, .ref (o (r1.2 + 1))), (4, .int r2)]) hX [1, 2, 3, 4, 0] (by decide) rfl dX6_removePunch_14 ?_
  refine q_aload_n (pc := 16) hX 3 rfl rfl dX6_removePunch_16 ?_
  refine q_iload (pc := 17) hX 4 rfl dX6_removePunch_17 ?_
  refine q_iload_n (pc := 19) hX 2 rfl rfl dX6_removePunch_19 ?_
  obtain ⟨r3, hr3, hE⟩ := ob_bind hE
  refine q_callS (pc := 20) (As := [.ref (o (r1.2 + 1)), .int r2, .int x2]) (rest := []) (rv := some (.int r3)) (st' := [.int r3]) hX (c_X6_isPunchAt (tb_e1 hemr1) hr3) (sl_X6_79) pd_yX6_isPunchAt rfl ⟨by decide, by decide⟩ ⟨by decide, by decide⟩ rfl (Nat.le_of_ble_eq_true rfl) rfl dX6_removePunch_20 ?_
  refine q_if_ne (pc := 23) hX 36 (by decide) dX6_removePunch_23 (fun c => ?_) (fun c => ?_)
  · rw [if_neg c] at hE
    refine q_aload_n (pc := 36) hX 3 rfl rfl dX6_removePunch_36 ?_
    refine q_iload (pc := 37) hX 4 rfl dX6_removePunch_37 ?_
    refine q_iconst (pc := 39) hX (1) rfl dX6_removePunch_39 ?_
    obtain ⟨r4, hr4, hE⟩ := ob_bind hE
    refine q_callV (pc := 40) (id := (r1.2 + 1)) (As := [.int r2, .int 1]) (rest := []) (rv := some (.int r4)) (st' := [.int r4]) hX (c_X4_get (tb_e1 hemr1) hr4) (vl_X6_102) (tb_lt (tb_e1 hemr1)) (ob_T (tb_e1 hemr1).1 _ _) rfl rfl pd_yX4_get rfl ⟨by decide, by decide⟩ ⟨by decide, by decide⟩ rfl (Nat.le_of_ble_eq_true rfl) rfl dX6_removePunch_40 ?_
    refine q_iconst (pc := 43) hX (1) rfl dX6_removePunch_43 ?_
    obtain ⟨p6, hp6, hE⟩ := bnd_ob hE
    suffices Jp6 : WM X o hn M G 1 6 52 6 [(3, .ref (o (r1.2 + 1))), (4, .int r2)] [.int p6] by
      refine q_icmp_ne (pc := 44) hX 51 (by decide) dX6_removePunch_44 (fun c => ?_) (fun c => ?_)
      · rw [if_neg c] at hp6
        refine q_iconst (pc := 51) hX (0) rfl dX6_removePunch_51 ?_
        refine q_lo [3, 4] rfl ?_
        cases hp6
        exact Jp6
      · rw [if_pos c] at hp6
        refine q_iconst (pc := 47) hX (1) rfl dX6_removePunch_47 ?_
        refine q_goto (pc := 48) hX 52 (by decide) dX6_removePunch_48 ?_
        refine q_lo [3, 4] rfl ?_
        cases hp6
        exact Jp6
    refine q_istore (pc := 52) (lo' := [(3, .ref (o (r1.2 + 1))), (4, .int r2), (5, .int p6)]) hX [1, 2, 0] (by decide) rfl dX6_removePunch_52 ?_
    refine q_aload_n (pc := 54) hX 0 rfl rfl dX6_removePunch_54 ?_
    refine q_iload (pc := 55) hX 1 rfl dX6_removePunch_55 ?_
    obtain ⟨r7, hr7, hE⟩ := ob_bind hE
    refine q_callV (pc := 57) (id := (r1.2 + 1)) (As := [.int r2]) (rest := []) (rv := none) (st' := []) hX (c_X4_remove (tb_e1 hemr1) hr7) (vl_X6_106) (tb_lt (tb_e1 hemr1)) (ob_T (tb_e1 hemr1).1 _ _) rfl rfl pd_yX4_remove rfl ⟨by decide, by decide⟩ ⟨by decide, by decide⟩ rfl (Nat.le_of_ble_eq_true rfl) rfl dX6_removePunch_57 ?_
    refine q_iload (pc := 60) hX 2 rfl dX6_removePunch_60 ?_
    obtain ⟨v8, hv8, hE⟩ := ob_bind hE
    obtain ⟨hqv8, hbv8⟩ := bchk_ok hv8
    rw [hqv8]
    cases hE
    exact q_zret hX hbv8 hR (by decide) (by decide) dX6_removePunch_62
  · rw [if_pos c] at hE
    cases hE
    exact q_throwN (pc := 26) (E := eNSE) (text := "there is no punch at this time") (ik := 97) (is := 99) (ic := 101) hX hE0 hR kw_226 kw_227 (by decide) (by decide +kernel) at_4 ot_4 (by decide) (by decide) (Nat.le_of_ble_eq_true rfl) (by decide) (by decide) dX6_removePunch_26 dX6_removePunch_29 dX6_removePunch_30 dX6_removePunch_32 dX6_removePunch_35

set_option maxHeartbeats 4000000 in
theorem c_X6_addByHand {Y : Lx} {o : Nat → Nat} {hn : Nat} {M : Mem} {G : Mel} {t0 : Nat} {x1 : Int32} {x2 : Int32} {x3 : Int32} {kr : Nat} {rr : Int32} {Mr : Mem} (ht0 : tb hn t0) (hE : s_X6_addByHand M t0 x1 x2 x3 = some (kr, rr, Mr)) : MI Y yX6_addByHand cX6_addByHand 4 (some .int) 7 112 3 18 [.ref (o t0), .int x1, .int x2, .int x3] o hn M G (rsOf kr (some (.int rr))) Mr G := by
  refine MI.of (by decide +kernel) (Nat.le_of_ble_eq_true rfl) (fun X hY hX hE0 hR => ?_)
  change CxOK X RX6 cX6_addByHand 4 7 112 3 18 (some .int) at hX
  show WM X o hn M G 0 0 0 4 [(0, .ref (o t0)), (1, .int x1), (2, .int x2), (3, .int x3)] []
  unfold s_X6_addByHand at hE
  refine q_iload_n (pc := 0) hX 1 rfl rfl dX6_addByHand_0 ?_
  refine q_iconst (pc := 1) hX (0) rfl dX6_addByHand_1 ?_
  refine q_sipush (pc := 2) hX (10079) (by decide) dX6_addByHand_2 ?_
  obtain ⟨r1, hr1, hE⟩ := ob_bind hE
  by_cases hkr1 : r1 = 0
  rotate_left
  · rw [if_pos hkr1] at hE
    refine q_callSx (pc := 5) (As := [.int x1, .int 0, .int 10079]) (rest := []) hX (MI_x hkr1 (c_X6_requireWithin hr1)) (sl_X6_46) pd_yX6_requireWithin rfl ⟨by decide, by decide⟩ ⟨by decide, by decide⟩ rfl (Nat.le_of_ble_eq_true rfl) dX6_addByHand_5 ?_
    cases hE
    exact q_out hX hE0 (CxR_x hkr1 hR) (by decide) (by decide)
  rw [if_neg (fun h => h hkr1)] at hE
  refine q_callS (pc := 5) (As := [.int x1, .int 0, .int 10079]) (rest := []) (rv := none) (st' := []) hX (MI_0 hkr1 (c_X6_requireWithin hr1)) (sl_X6_46) pd_yX6_requireWithin rfl ⟨by decide, by decide⟩ ⟨by decide, by decide⟩ rfl (Nat.le_of_ble_eq_true rfl) rfl dX6_addByHand_5 ?_
  refine q_iload_n (pc := 8) hX 2 rfl rfl dX6_addByHand_8 ?_
  refine q_iload_n (pc := 9) hX 1 rfl rfl dX6_addByHand_9 ?_
  refine q_iconst (pc := 10) hX (1) rfl dX6_addByHand_10 ?_
  refine q_iadd (pc := 11) hX dX6_addByHand_11 ?_
  refine q_sipush (pc := 12) hX (10080) (by decide) dX6_addByHand_12 ?_
  obtain ⟨r2, hr2, hE⟩ := ob_bind hE
  by_cases hkr2 : r2 = 0
  rotate_left
  · rw [if_pos hkr2] at hE
    refine q_callSx (pc := 15) (As := [.int x2, .int (x1 + 1), .int 10080]) (rest := []) hX (MI_x hkr2 (c_X6_requireWithin hr2)) (sl_X6_46) pd_yX6_requireWithin rfl ⟨by decide, by decide⟩ ⟨by decide, by decide⟩ rfl (Nat.le_of_ble_eq_true rfl) dX6_addByHand_15 ?_
    cases hE
    exact q_out hX hE0 (CxR_x hkr2 hR) (by decide) (by decide)
  rw [if_neg (fun h => h hkr2)] at hE
  refine q_callS (pc := 15) (As := [.int x2, .int (x1 + 1), .int 10080]) (rest := []) (rv := none) (st' := []) hX (MI_0 hkr2 (c_X6_requireWithin hr2)) (sl_X6_46) pd_yX6_requireWithin rfl ⟨by decide, by decide⟩ ⟨by decide, by decide⟩ rfl (Nat.le_of_ble_eq_true rfl) rfl dX6_addByHand_15 ?_
  refine q_aload_n (pc := 18) hX 0 rfl rfl dX6_addByHand_18 ?_
  refine q_iload_n (pc := 19) hX 3 rfl rfl dX6_addByHand_19 ?_
  obtain ⟨r3, hr3, hE⟩ := ob_bind hE
  by_cases hkr3 : r3 = 0
  rotate_left
  · rw [if_pos hkr3] at hE
    refine q_callSx (pc := 20) (As := [.ref (o t0), .int x3]) (rest := []) hX (MI_x hkr3 (c_X6_requireRoom ht0 hr3)) (sl_X6_71) pd_yX6_requireRoom rfl ⟨by decide, by decide⟩ ⟨by decide, by decide⟩ rfl (Nat.le_of_ble_eq_true rfl) dX6_addByHand_20 ?_
    cases hE
    exact q_out hX hE0 (CxR_x hkr3 hR) (by decide) (by decide)
  rw [if_neg (fun h => h hkr3)] at hE
  refine q_callS (pc := 20) (As := [.ref (o t0), .int x3]) (rest := []) (rv := none) (st' := []) hX (MI_0 hkr3 (c_X6_requireRoom ht0 hr3)) (sl_X6_71) pd_yX6_requireRoom rfl ⟨by decide, by decide⟩ ⟨by decide, by decide⟩ rfl (Nat.le_of_ble_eq_true rfl) rfl dX6_addByHand_20 ?_
  refine q_aload_n (pc := 23) hX 0 rfl rfl dX6_addByHand_23 ?_
  refine q_iload_n (pc := 24) hX 1 rfl rfl dX6_addByHand_24 ?_
  refine q_iload_n (pc := 25) hX 2 rfl rfl dX6_addByHand_25 ?_
  obtain ⟨r4, hr4, hE⟩ := ob_bind hE
  refine q_callV (pc := 26) (id := t0) (As := [.int x1, .int x2]) (rest := []) (rv := none) (st' := []) hX (c_X4_addSpan ht0 hr4) (vl_X6_209) (tb_lt ht0) (ob_T ht0.1 _ _) rfl rfl pd_yX4_addSpan rfl ⟨by decide, by decide⟩ ⟨by decide, by decide⟩ rfl (Nat.le_of_ble_eq_true rfl) rfl dX6_addByHand_26 ?_
  refine q_aload_n (pc := 29) hX 0 rfl rfl dX6_addByHand_29 ?_
  obtain ⟨r5, hr5, hE⟩ := ob_bind hE
  refine q_callV (pc := 30) (id := t0) (As := []) (rest := []) (rv := some (.int r5)) (st' := [.int r5]) hX (c_X4_size ht0 hr5) (vl_X6_93) (tb_lt ht0) (ob_T ht0.1 _ _) rfl rfl pd_yX4_size rfl ⟨by decide, by decide⟩ ⟨by decide, by decide⟩ rfl (Nat.le_of_ble_eq_true rfl) rfl dX6_addByHand_30 ?_
  refine q_iconst (pc := 33) hX (1) rfl dX6_addByHand_33 ?_
  refine q_isub (pc := 34) hX dX6_addByHand_34 ?_
  cases hE
  exact q_iret hX hR (by decide) (by decide) dX6_addByHand_35

set_option maxHeartbeats 4000000 in
theorem c_X6_enter {Y : Lx} {o : Nat → Nat} {hn : Nat} {M : Mem} {G : Mel} {x1 : Int32} {x2 : Int32} {x3 : Int32} {kr : Nat} {rr : Int32} {Mr : Mem} (hE : s_X6_enter M hn x1 x2 x3 = some (kr, rr, Mr)) : MI Y yX6_enter cX6_enter 4 (some .int) 8 135 4 24 [.ref (o 28), .int x1, .int x2, .int x3] o hn M G (rsOf kr (some (.int rr))) Mr G := by
  refine MI.of (by decide +kernel) (Nat.le_of_ble_eq_true rfl) (fun X hY hX hE0 hR => ?_)
  change CxOK X RX6 cX6_enter 4 8 135 4 24 (some .int) at hX
  show WM X o hn M G 0 0 0 4 [(0, .ref (o 28)), (1, .int x1), (2, .int x2), (3, .int x3)] []
  unfold s_X6_enter at hE
  refine q_aload_n (pc := 0) hX 0 rfl rfl dX6_enter_0 ?_
  refine q_iload_n (pc := 1) hX 1 rfl rfl dX6_enter_1 ?_
  obtain ⟨r1, hr1, hE⟩ := ob_bind hE
  by_cases hkr1 : r1.1 = 0
  rotate_left
  · rw [if_pos hkr1] at hE
    refine q_callVx (pc := 2) (id := 28) (As := [.int x1]) (rest := []) hX (MI_x hkr1 (c_X6_find hr1)) (vl_X6_60) (lt46 (by decide)) rfl rfl rfl pd_yX6_find rfl ⟨by decide, by decide⟩ ⟨by decide, by decide⟩ rfl (Nat.le_of_ble_eq_true rfl) dX6_enter_2 ?_
    cases hE
    exact q_out hX hE0 (CxR_x hkr1 hR) (by decide) (by decide)
  rw [if_neg (fun h => h hkr1)] at hE
  refine q_callV (pc := 2) (id := 28) (As := [.int x1]) (rest := []) (rv := some (.ref (o r1.2))) (st' := [.ref (o r1.2)]) hX (MI_0 hkr1 (c_X6_find hr1)) (vl_X6_60) (lt46 (by decide)) rfl rfl rfl pd_yX6_find rfl ⟨by decide, by decide⟩ ⟨by decide, by decide⟩ rfl (Nat.le_of_ble_eq_true rfl) rfl dX6_enter_2 ?_
  have hemr1 := find_em hr1 hkr1
  refine q_get (pc := 5) (id := r1.2) (ci := 0) (N := 6) (T := TX0) (C := RX0) hX 4 (em_lt hemr1) (ob_E hemr1 _ _) rfl in_X0 (by decide) (Or.inr ⟨_, fn_X6_109⟩) rfl dX6_enter_5 ?_
  refine q_iload_n (pc := 8) hX 2 rfl rfl dX6_enter_8 ?_
  refine q_iload_n (pc := 9) hX 3 rfl rfl dX6_enter_9 ?_
  refine q_bipush (pc := 10) hX (20) (by decide) dX6_enter_10 ?_
  obtain ⟨r2, hr2, hE⟩ := ob_bind hE
  by_cases hkr2 : r2.1 = 0
  rotate_left
  · rw [if_pos hkr2] at hE
    refine q_callSx (pc := 12) (As := [.ref (o (r1.2 + 3)), .int x2, .int x3, .int 20]) (rest := []) hX (MI_x hkr2 (c_X6_addByHand (tb_e3 hemr1) hr2)) (sl_X6_112) pd_yX6_addByHand rfl ⟨by decide, by decide⟩ ⟨by decide, by decide⟩ rfl (Nat.le_of_ble_eq_true rfl) dX6_enter_12 ?_
    cases hE
    exact q_out hX hE0 (CxR_x hkr2 hR) (by decide) (by decide)
  rw [if_neg (fun h => h hkr2)] at hE
  refine q_callS (pc := 12) (As := [.ref (o (r1.2 + 3)), .int x2, .int x3, .int 20]) (rest := []) (rv := some (.int r2.2.1)) (st' := [.int r2.2.1]) hX (MI_0 hkr2 (c_X6_addByHand (tb_e3 hemr1) hr2)) (sl_X6_112) pd_yX6_addByHand rfl ⟨by decide, by decide⟩ ⟨by decide, by decide⟩ rfl (Nat.le_of_ble_eq_true rfl) rfl dX6_enter_12 ?_
  cases hE
  exact q_iret hX hR (by decide) (by decide) dX6_enter_15

set_option maxHeartbeats 4000000 in
theorem c_X6_requireNumber {Y : Lx} {o : Nat → Nat} {hn : Nat} {M : Mem} {G : Mel} {t0 : Nat} {x1 : Int32} {kr : Nat} (ht0 : tb hn t0) (hE : s_X6_requireNumber M t0 x1 = some (kr)) : MI Y yX6_requireNumber cX6_requireNumber 2 none 6 90 1 6 [.ref (o t0), .int x1] o hn M G (rsOf kr (none)) M G := by
  refine MI.of (by decide +kernel) (Nat.le_of_ble_eq_true rfl) (fun X hY hX hE0 hR => ?_)
  change CxOK X RX6 cX6_requireNumber 2 6 90 1 6 none at hX
  show WM X o hn M G 0 0 0 2 [(0, .ref (o t0)), (1, .int x1)] []
  unfold s_X6_requireNumber at hE
  refine q_iload_n (pc := 0) hX 1 rfl rfl dX6_requireNumber_0 ?_
  refine q_if_lt (pc := 1) hX 12 (by decide) dX6_requireNumber_1 (fun c => ?_) (fun c => ?_)
  · rw [if_pos c] at hE
    cases hE
    exact q_throwS (pc := 12) (E := eIOB) (text := "there is nothing with this number") (ik := 195) (is := 207) (ic := 199) hX hE0 hR kw_164 kw_165 (by decide) (by decide +kernel) at_3 ot_3 (by decide) (by decide) (Nat.le_of_ble_eq_true rfl) (by decide) (by decide) dX6_requireNumber_12 dX6_requireNumber_15 dX6_requireNumber_16 dX6_requireNumber_18 dX6_requireNumber_21
  · rw [if_neg c] at hE
    refine q_iload_n (pc := 4) hX 1 rfl rfl dX6_requireNumber_4 ?_
    refine q_aload_n (pc := 5) hX 0 rfl rfl dX6_requireNumber_5 ?_
    obtain ⟨r1, hr1, hE⟩ := ob_bind hE
    refine q_callV (pc := 6) (id := t0) (As := []) (rest := [.int x1]) (rv := some (.int r1)) (st' := [.int r1, .int x1]) hX (c_X4_size ht0 hr1) (vl_X6_93) (tb_lt ht0) (ob_T ht0.1 _ _) rfl rfl pd_yX4_size rfl ⟨by decide, by decide⟩ ⟨by decide, by decide⟩ rfl (Nat.le_of_ble_eq_true rfl) rfl dX6_requireNumber_6 ?_
    refine q_icmp_lt (pc := 9) hX 22 (by decide) dX6_requireNumber_9 (fun c => ?_) (fun c => ?_)
    · rw [if_pos c] at hE
      cases hE
      exact q_vret hX hR (by decide) (by decide) dX6_requireNumber_22
    · rw [if_neg c] at hE
      cases hE
      exact q_throwS (pc := 12) (E := eIOB) (text := "there is nothing with this number") (ik := 195) (is := 207) (ic := 199) hX hE0 hR kw_164 kw_165 (by decide) (by decide +kernel) at_3 ot_3 (by decide) (by decide) (Nat.le_of_ble_eq_true rfl) (by decide) (by decide) dX6_requireNumber_12 dX6_requireNumber_15 dX6_requireNumber_16 dX6_requireNumber_18 dX6_requireNumber_21

set_option maxHeartbeats 4000000 in
theorem c_X6_removeNumbered {Y : Lx} {o : Nat → Nat} {hn : Nat} {M : Mem} {G : Mel} {t0 : Nat} {x1 : Int32} {kr : Nat} {rr : Int32} {Mr : Mem} (ht0 : tb hn t0) (hE : s_X6_removeNumbered M t0 x1 = some (kr, rr, Mr)) : MI Y yX6_removeNumbered cX6_removeNumbered 2 (some .int) 7 111 1 6 [.ref (o t0), .int x1] o hn M G (rsOf kr (some (.int rr))) Mr G := by
  refine MI.of (by decide +kernel) (Nat.le_of_ble_eq_true rfl) (fun X hY hX hE0 hR => ?_)
  change CxOK X RX6 cX6_removeNumbered 2 7 111 1 6 (some .int) at hX
  show WM X o hn M G 0 0 0 2 [(0, .ref (o t0)), (1, .int x1)] []
  unfold s_X6_removeNumbered at hE
  refine q_aload_n (pc := 0) hX 0 rfl rfl dX6_removeNumbered_0 ?_
  refine q_iload_n (pc := 1) hX 1 rfl rfl dX6_removeNumbered_1 ?_
  obtain ⟨r1, hr1, hE⟩ := ob_bind hE
  by_cases hkr1 : r1 = 0
  rotate_left
  · rw [if_pos hkr1] at hE
    refine q_callSx (pc := 2) (As := [.ref (o t0), .int x1]) (rest := []) hX (MI_x hkr1 (c_X6_requireNumber ht0 hr1)) (sl_X6_164) pd_yX6_requireNumber rfl ⟨by decide, by decide⟩ ⟨by decide, by decide⟩ rfl (Nat.le_of_ble_eq_true rfl) dX6_removeNumbered_2 ?_
    cases hE
    exact q_out hX hE0 (CxR_x hkr1 hR) (by decide) (by decide)
  rw [if_neg (fun h => h hkr1)] at hE
  refine q_callS (pc := 2) (As := [.ref (o t0), .int x1]) (rest := []) (rv := none) (st' := []) hX (MI_0 hkr1 (c_X6_requireNumber ht0 hr1)) (sl_X6_164) pd_yX6_requireNumber rfl ⟨by decide, by decide⟩ ⟨by decide, by decide⟩ rfl (Nat.le_of_ble_eq_true rfl) rfl dX6_removeNumbered_2 ?_
  refine q_aload_n (pc := 5) hX 0 rfl rfl dX6_removeNumbered_5 ?_
  refine q_iload_n (pc := 6) hX 1 rfl rfl dX6_removeNumbered_6 ?_
  obtain ⟨r2, hr2, hE⟩ := ob_bind hE
  refine q_callV (pc := 7) (id := t0) (As := [.int x1]) (rest := []) (rv := none) (st' := []) hX (c_X4_remove ht0 hr2) (vl_X6_106) (tb_lt ht0) (ob_T ht0.1 _ _) rfl rfl pd_yX4_remove rfl ⟨by decide, by decide⟩ ⟨by decide, by decide⟩ rfl (Nat.le_of_ble_eq_true rfl) rfl dX6_removeNumbered_7 ?_
  refine q_aload_n (pc := 10) hX 0 rfl rfl dX6_removeNumbered_10 ?_
  obtain ⟨r3, hr3, hE⟩ := ob_bind hE
  refine q_callV (pc := 11) (id := t0) (As := []) (rest := []) (rv := some (.int r3)) (st' := [.int r3]) hX (c_X4_size ht0 hr3) (vl_X6_93) (tb_lt ht0) (ob_T ht0.1 _ _) rfl rfl pd_yX4_size rfl ⟨by decide, by decide⟩ ⟨by decide, by decide⟩ rfl (Nat.le_of_ble_eq_true rfl) rfl dX6_removeNumbered_11 ?_
  cases hE
  exact q_iret hX hR (by decide) (by decide) dX6_removeNumbered_14

set_option maxHeartbeats 4000000 in
theorem c_X6_removeEntry {Y : Lx} {o : Nat → Nat} {hn : Nat} {M : Mem} {G : Mel} {x1 : Int32} {x2 : Int32} {kr : Nat} {rr : Int32} {Mr : Mem} (hE : s_X6_removeEntry M hn x1 x2 = some (kr, rr, Mr)) : MI Y yX6_removeEntry cX6_removeEntry 3 (some .int) 8 132 2 12 [.ref (o 28), .int x1, .int x2] o hn M G (rsOf kr (some (.int rr))) Mr G := by
  refine MI.of (by decide +kernel) (Nat.le_of_ble_eq_true rfl) (fun X hY hX hE0 hR => ?_)
  change CxOK X RX6 cX6_removeEntry 3 8 132 2 12 (some .int) at hX
  show WM X o hn M G 0 0 0 3 [(0, .ref (o 28)), (1, .int x1), (2, .int x2)] []
  unfold s_X6_removeEntry at hE
  refine q_aload_n (pc := 0) hX 0 rfl rfl dX6_removeEntry_0 ?_
  refine q_iload_n (pc := 1) hX 1 rfl rfl dX6_removeEntry_1 ?_
  obtain ⟨r1, hr1, hE⟩ := ob_bind hE
  by_cases hkr1 : r1.1 = 0
  rotate_left
  · rw [if_pos hkr1] at hE
    refine q_callVx (pc := 2) (id := 28) (As := [.int x1]) (rest := []) hX (MI_x hkr1 (c_X6_find hr1)) (vl_X6_60) (lt46 (by decide)) rfl rfl rfl pd_yX6_find rfl ⟨by decide, by decide⟩ ⟨by decide, by decide⟩ rfl (Nat.le_of_ble_eq_true rfl) dX6_removeEntry_2 ?_
    cases hE
    exact q_out hX hE0 (CxR_x hkr1 hR) (by decide) (by decide)
  rw [if_neg (fun h => h hkr1)] at hE
  refine q_callV (pc := 2) (id := 28) (As := [.int x1]) (rest := []) (rv := some (.ref (o r1.2))) (st' := [.ref (o r1.2)]) hX (MI_0 hkr1 (c_X6_find hr1)) (vl_X6_60) (lt46 (by decide)) rfl rfl rfl pd_yX6_find rfl ⟨by decide, by decide⟩ ⟨by decide, by decide⟩ rfl (Nat.le_of_ble_eq_true rfl) rfl dX6_removeEntry_2 ?_
  have hemr1 := find_em hr1 hkr1
  refine q_get (pc := 5) (id := r1.2) (ci := 0) (N := 6) (T := TX0) (C := RX0) hX 4 (em_lt hemr1) (ob_E hemr1 _ _) rfl in_X0 (by decide) (Or.inr ⟨_, fn_X6_109⟩) rfl dX6_removeEntry_5 ?_
  refine q_iload_n (pc := 8) hX 2 rfl rfl dX6_removeEntry_8 ?_
  obtain ⟨r2, hr2, hE⟩ := ob_bind hE
  by_cases hkr2 : r2.1 = 0
  rotate_left
  · rw [if_pos hkr2] at hE
    refine q_callSx (pc := 9) (As := [.ref (o (r1.2 + 3)), .int x2]) (rest := []) hX (MI_x hkr2 (c_X6_removeNumbered (tb_e3 hemr1) hr2)) (sl_X6_116) pd_yX6_removeNumbered rfl ⟨by decide, by decide⟩ ⟨by decide, by decide⟩ rfl (Nat.le_of_ble_eq_true rfl) dX6_removeEntry_9 ?_
    cases hE
    exact q_out hX hE0 (CxR_x hkr2 hR) (by decide) (by decide)
  rw [if_neg (fun h => h hkr2)] at hE
  refine q_callS (pc := 9) (As := [.ref (o (r1.2 + 3)), .int x2]) (rest := []) (rv := some (.int r2.2.1)) (st' := [.int r2.2.1]) hX (MI_0 hkr2 (c_X6_removeNumbered (tb_e3 hemr1) hr2)) (sl_X6_116) pd_yX6_removeNumbered rfl ⟨by decide, by decide⟩ ⟨by decide, by decide⟩ rfl (Nat.le_of_ble_eq_true rfl) rfl dX6_removeEntry_9 ?_
  cases hE
  exact q_iret hX hR (by decide) (by decide) dX6_removeEntry_12

set_option maxHeartbeats 4000000 in
theorem c_X6_enterBreak {Y : Lx} {o : Nat → Nat} {hn : Nat} {M : Mem} {G : Mel} {x1 : Int32} {x2 : Int32} {x3 : Int32} {kr : Nat} {rr : Int32} {Mr : Mem} (hE : s_X6_enterBreak M hn x1 x2 x3 = some (kr, rr, Mr)) : MI Y yX6_enterBreak cX6_enterBreak 4 (some .int) 8 135 4 24 [.ref (o 28), .int x1, .int x2, .int x3] o hn M G (rsOf kr (some (.int rr))) Mr G := by
  refine MI.of (by decide +kernel) (Nat.le_of_ble_eq_true rfl) (fun X hY hX hE0 hR => ?_)
  change CxOK X RX6 cX6_enterBreak 4 8 135 4 24 (some .int) at hX
  show WM X o hn M G 0 0 0 4 [(0, .ref (o 28)), (1, .int x1), (2, .int x2), (3, .int x3)] []
  unfold s_X6_enterBreak at hE
  refine q_aload_n (pc := 0) hX 0 rfl rfl dX6_enterBreak_0 ?_
  refine q_iload_n (pc := 1) hX 1 rfl rfl dX6_enterBreak_1 ?_
  obtain ⟨r1, hr1, hE⟩ := ob_bind hE
  by_cases hkr1 : r1.1 = 0
  rotate_left
  · rw [if_pos hkr1] at hE
    refine q_callVx (pc := 2) (id := 28) (As := [.int x1]) (rest := []) hX (MI_x hkr1 (c_X6_find hr1)) (vl_X6_60) (lt46 (by decide)) rfl rfl rfl pd_yX6_find rfl ⟨by decide, by decide⟩ ⟨by decide, by decide⟩ rfl (Nat.le_of_ble_eq_true rfl) dX6_enterBreak_2 ?_
    cases hE
    exact q_out hX hE0 (CxR_x hkr1 hR) (by decide) (by decide)
  rw [if_neg (fun h => h hkr1)] at hE
  refine q_callV (pc := 2) (id := 28) (As := [.int x1]) (rest := []) (rv := some (.ref (o r1.2))) (st' := [.ref (o r1.2)]) hX (MI_0 hkr1 (c_X6_find hr1)) (vl_X6_60) (lt46 (by decide)) rfl rfl rfl pd_yX6_find rfl ⟨by decide, by decide⟩ ⟨by decide, by decide⟩ rfl (Nat.le_of_ble_eq_true rfl) rfl dX6_enterBreak_2 ?_
  have hemr1 := find_em hr1 hkr1
  refine q_get (pc := 5) (id := r1.2) (ci := 0) (N := 6) (T := TX0) (C := RX0) hX 5 (em_lt hemr1) (ob_E hemr1 _ _) rfl in_X0 (by decide) (Or.inr ⟨_, fn_X6_119⟩) rfl dX6_enterBreak_5 ?_
  refine q_iload_n (pc := 8) hX 2 rfl rfl dX6_enterBreak_8 ?_
  refine q_iload_n (pc := 9) hX 3 rfl rfl dX6_enterBreak_9 ?_
  refine q_bipush (pc := 10) hX (20) (by decide) dX6_enterBreak_10 ?_
  obtain ⟨r2, hr2, hE⟩ := ob_bind hE
  by_cases hkr2 : r2.1 = 0
  rotate_left
  · rw [if_pos hkr2] at hE
    refine q_callSx (pc := 12) (As := [.ref (o (r1.2 + 5)), .int x2, .int x3, .int 20]) (rest := []) hX (MI_x hkr2 (c_X6_addByHand (tb_e5 hemr1) hr2)) (sl_X6_112) pd_yX6_addByHand rfl ⟨by decide, by decide⟩ ⟨by decide, by decide⟩ rfl (Nat.le_of_ble_eq_true rfl) dX6_enterBreak_12 ?_
    cases hE
    exact q_out hX hE0 (CxR_x hkr2 hR) (by decide) (by decide)
  rw [if_neg (fun h => h hkr2)] at hE
  refine q_callS (pc := 12) (As := [.ref (o (r1.2 + 5)), .int x2, .int x3, .int 20]) (rest := []) (rv := some (.int r2.2.1)) (st' := [.int r2.2.1]) hX (MI_0 hkr2 (c_X6_addByHand (tb_e5 hemr1) hr2)) (sl_X6_112) pd_yX6_addByHand rfl ⟨by decide, by decide⟩ ⟨by decide, by decide⟩ rfl (Nat.le_of_ble_eq_true rfl) rfl dX6_enterBreak_12 ?_
  cases hE
  exact q_iret hX hR (by decide) (by decide) dX6_enterBreak_15

set_option maxHeartbeats 4000000 in
theorem c_X6_removeBreak {Y : Lx} {o : Nat → Nat} {hn : Nat} {M : Mem} {G : Mel} {x1 : Int32} {x2 : Int32} {kr : Nat} {rr : Int32} {Mr : Mem} (hE : s_X6_removeBreak M hn x1 x2 = some (kr, rr, Mr)) : MI Y yX6_removeBreak cX6_removeBreak 3 (some .int) 8 132 2 12 [.ref (o 28), .int x1, .int x2] o hn M G (rsOf kr (some (.int rr))) Mr G := by
  refine MI.of (by decide +kernel) (Nat.le_of_ble_eq_true rfl) (fun X hY hX hE0 hR => ?_)
  change CxOK X RX6 cX6_removeBreak 3 8 132 2 12 (some .int) at hX
  show WM X o hn M G 0 0 0 3 [(0, .ref (o 28)), (1, .int x1), (2, .int x2)] []
  unfold s_X6_removeBreak at hE
  refine q_aload_n (pc := 0) hX 0 rfl rfl dX6_removeBreak_0 ?_
  refine q_iload_n (pc := 1) hX 1 rfl rfl dX6_removeBreak_1 ?_
  obtain ⟨r1, hr1, hE⟩ := ob_bind hE
  by_cases hkr1 : r1.1 = 0
  rotate_left
  · rw [if_pos hkr1] at hE
    refine q_callVx (pc := 2) (id := 28) (As := [.int x1]) (rest := []) hX (MI_x hkr1 (c_X6_find hr1)) (vl_X6_60) (lt46 (by decide)) rfl rfl rfl pd_yX6_find rfl ⟨by decide, by decide⟩ ⟨by decide, by decide⟩ rfl (Nat.le_of_ble_eq_true rfl) dX6_removeBreak_2 ?_
    cases hE
    exact q_out hX hE0 (CxR_x hkr1 hR) (by decide) (by decide)
  rw [if_neg (fun h => h hkr1)] at hE
  refine q_callV (pc := 2) (id := 28) (As := [.int x1]) (rest := []) (rv := some (.ref (o r1.2))) (st' := [.ref (o r1.2)]) hX (MI_0 hkr1 (c_X6_find hr1)) (vl_X6_60) (lt46 (by decide)) rfl rfl rfl pd_yX6_find rfl ⟨by decide, by decide⟩ ⟨by decide, by decide⟩ rfl (Nat.le_of_ble_eq_true rfl) rfl dX6_removeBreak_2 ?_
  have hemr1 := find_em hr1 hkr1
  refine q_get (pc := 5) (id := r1.2) (ci := 0) (N := 6) (T := TX0) (C := RX0) hX 5 (em_lt hemr1) (ob_E hemr1 _ _) rfl in_X0 (by decide) (Or.inr ⟨_, fn_X6_119⟩) rfl dX6_removeBreak_5 ?_
  refine q_iload_n (pc := 8) hX 2 rfl rfl dX6_removeBreak_8 ?_
  obtain ⟨r2, hr2, hE⟩ := ob_bind hE
  by_cases hkr2 : r2.1 = 0
  rotate_left
  · rw [if_pos hkr2] at hE
    refine q_callSx (pc := 9) (As := [.ref (o (r1.2 + 5)), .int x2]) (rest := []) hX (MI_x hkr2 (c_X6_removeNumbered (tb_e5 hemr1) hr2)) (sl_X6_116) pd_yX6_removeNumbered rfl ⟨by decide, by decide⟩ ⟨by decide, by decide⟩ rfl (Nat.le_of_ble_eq_true rfl) dX6_removeBreak_9 ?_
    cases hE
    exact q_out hX hE0 (CxR_x hkr2 hR) (by decide) (by decide)
  rw [if_neg (fun h => h hkr2)] at hE
  refine q_callS (pc := 9) (As := [.ref (o (r1.2 + 5)), .int x2]) (rest := []) (rv := some (.int r2.2.1)) (st' := [.int r2.2.1]) hX (MI_0 hkr2 (c_X6_removeNumbered (tb_e5 hemr1) hr2)) (sl_X6_116) pd_yX6_removeNumbered rfl ⟨by decide, by decide⟩ ⟨by decide, by decide⟩ rfl (Nat.le_of_ble_eq_true rfl) rfl dX6_removeBreak_9 ?_
  cases hE
  exact q_iret hX hR (by decide) (by decide) dX6_removeBreak_12

set_option maxHeartbeats 4000000 in
theorem c_X6_addPremium {Y : Lx} {o : Nat → Nat} {hn : Nat} {M : Mem} {G : Mel} {x1 : Int32} {x2 : Int32} {x3 : Int32} {x4 : Int32} {kr : Nat} {rr : Int32} {Mr : Mem} (hE : s_X6_addPremium M x1 x2 x3 x4 = some (kr, rr, Mr)) : MI Y yX6_addPremium cX6_addPremium 5 (some .int) 7 112 5 30 [.ref (o 28), .int x1, .int x2, .int x3, .int x4] o hn M G (rsOf kr (some (.int rr))) Mr G := by
  refine MI.of (by decide +kernel) (Nat.le_of_ble_eq_true rfl) (fun X hY hX hE0 hR => ?_)
  change CxOK X RX6 cX6_addPremium 5 7 112 5 30 (some .int) at hX
  show WM X o hn M G 0 0 0 5 [(0, .ref (o 28)), (1, .int x1), (2, .int x2), (3, .int x3), (4, .int x4)] []
  unfold s_X6_addPremium at hE
  refine q_iload_n (pc := 0) hX 1 rfl rfl dX6_addPremium_0 ?_
  refine q_iconst (pc := 1) hX (1) rfl dX6_addPremium_1 ?_
  refine q_bipush (pc := 2) hX (127) (by decide) dX6_addPremium_2 ?_
  obtain ⟨r1, hr1, hE⟩ := ob_bind hE
  by_cases hkr1 : r1 = 0
  rotate_left
  · rw [if_pos hkr1] at hE
    refine q_callSx (pc := 4) (As := [.int x1, .int 1, .int 127]) (rest := []) hX (MI_x hkr1 (c_X6_requireWithin hr1)) (sl_X6_46) pd_yX6_requireWithin rfl ⟨by decide, by decide⟩ ⟨by decide, by decide⟩ rfl (Nat.le_of_ble_eq_true rfl) dX6_addPremium_4 ?_
    cases hE
    exact q_out hX hE0 (CxR_x hkr1 hR) (by decide) (by decide)
  rw [if_neg (fun h => h hkr1)] at hE
  refine q_callS (pc := 4) (As := [.int x1, .int 1, .int 127]) (rest := []) (rv := none) (st' := []) hX (MI_0 hkr1 (c_X6_requireWithin hr1)) (sl_X6_46) pd_yX6_requireWithin rfl ⟨by decide, by decide⟩ ⟨by decide, by decide⟩ rfl (Nat.le_of_ble_eq_true rfl) rfl dX6_addPremium_4 ?_
  refine q_iload_n (pc := 7) hX 2 rfl rfl dX6_addPremium_7 ?_
  refine q_iconst (pc := 8) hX (0) rfl dX6_addPremium_8 ?_
  refine q_sipush (pc := 9) hX (1439) (by decide) dX6_addPremium_9 ?_
  obtain ⟨r2, hr2, hE⟩ := ob_bind hE
  by_cases hkr2 : r2 = 0
  rotate_left
  · rw [if_pos hkr2] at hE
    refine q_callSx (pc := 12) (As := [.int x2, .int 0, .int 1439]) (rest := []) hX (MI_x hkr2 (c_X6_requireWithin hr2)) (sl_X6_46) pd_yX6_requireWithin rfl ⟨by decide, by decide⟩ ⟨by decide, by decide⟩ rfl (Nat.le_of_ble_eq_true rfl) dX6_addPremium_12 ?_
    cases hE
    exact q_out hX hE0 (CxR_x hkr2 hR) (by decide) (by decide)
  rw [if_neg (fun h => h hkr2)] at hE
  refine q_callS (pc := 12) (As := [.int x2, .int 0, .int 1439]) (rest := []) (rv := none) (st' := []) hX (MI_0 hkr2 (c_X6_requireWithin hr2)) (sl_X6_46) pd_yX6_requireWithin rfl ⟨by decide, by decide⟩ ⟨by decide, by decide⟩ rfl (Nat.le_of_ble_eq_true rfl) rfl dX6_addPremium_12 ?_
  refine q_iload_n (pc := 15) hX 3 rfl rfl dX6_addPremium_15 ?_
  refine q_iconst (pc := 16) hX (0) rfl dX6_addPremium_16 ?_
  refine q_sipush (pc := 17) hX (1439) (by decide) dX6_addPremium_17 ?_
  obtain ⟨r3, hr3, hE⟩ := ob_bind hE
  by_cases hkr3 : r3 = 0
  rotate_left
  · rw [if_pos hkr3] at hE
    refine q_callSx (pc := 20) (As := [.int x3, .int 0, .int 1439]) (rest := []) hX (MI_x hkr3 (c_X6_requireWithin hr3)) (sl_X6_46) pd_yX6_requireWithin rfl ⟨by decide, by decide⟩ ⟨by decide, by decide⟩ rfl (Nat.le_of_ble_eq_true rfl) dX6_addPremium_20 ?_
    cases hE
    exact q_out hX hE0 (CxR_x hkr3 hR) (by decide) (by decide)
  rw [if_neg (fun h => h hkr3)] at hE
  refine q_callS (pc := 20) (As := [.int x3, .int 0, .int 1439]) (rest := []) (rv := none) (st' := []) hX (MI_0 hkr3 (c_X6_requireWithin hr3)) (sl_X6_46) pd_yX6_requireWithin rfl ⟨by decide, by decide⟩ ⟨by decide, by decide⟩ rfl (Nat.le_of_ble_eq_true rfl) rfl dX6_addPremium_20 ?_
  refine q_iload (pc := 23) hX 4 rfl dX6_addPremium_23 ?_
  refine q_iconst (pc := 25) hX (1) rfl dX6_addPremium_25 ?_
  refine q_sipush (pc := 26) hX (10000) (by decide) dX6_addPremium_26 ?_
  obtain ⟨r4, hr4, hE⟩ := ob_bind hE
  by_cases hkr4 : r4 = 0
  rotate_left
  · rw [if_pos hkr4] at hE
    refine q_callSx (pc := 29) (As := [.int x4, .int 1, .int 10000]) (rest := []) hX (MI_x hkr4 (c_X6_requireWithin hr4)) (sl_X6_46) pd_yX6_requireWithin rfl ⟨by decide, by decide⟩ ⟨by decide, by decide⟩ rfl (Nat.le_of_ble_eq_true rfl) dX6_addPremium_29 ?_
    cases hE
    exact q_out hX hE0 (CxR_x hkr4 hR) (by decide) (by decide)
  rw [if_neg (fun h => h hkr4)] at hE
  refine q_callS (pc := 29) (As := [.int x4, .int 1, .int 10000]) (rest := []) (rv := none) (st' := []) hX (MI_0 hkr4 (c_X6_requireWithin hr4)) (sl_X6_46) pd_yX6_requireWithin rfl ⟨by decide, by decide⟩ ⟨by decide, by decide⟩ rfl (Nat.le_of_ble_eq_true rfl) rfl dX6_addPremium_29 ?_
  refine q_aload_n (pc := 32) hX 0 rfl rfl dX6_addPremium_32 ?_
  refine q_get (pc := 33) (id := 28) (ci := 6) (N := 6) (T := TX6) (C := RX6) hX 2 (lt46 (by decide)) rfl rfl in_X6 (by decide) (Or.inl kw_19) rfl dX6_addPremium_33 ?_
  refine q_get (pc := 36) (id := 30) (ci := 2) (N := 1) (T := TX2) (C := RX2) hX 0 (lt46 (by decide)) rfl rfl in_X2 (by decide) (Or.inr ⟨_, fn_X6_122⟩) rfl dX6_addPremium_36 ?_
  refine q_bipush (pc := 39) hX (6) (by decide) dX6_addPremium_39 ?_
  obtain ⟨r5, hr5, hE⟩ := ob_bind hE
  by_cases hkr5 : r5 = 0
  rotate_left
  · rw [if_pos hkr5] at hE
    refine q_callSx (pc := 41) (As := [.ref (o 31), .int 6]) (rest := []) hX (MI_x hkr5 (c_X6_requireRoom (tb_31 hn) hr5)) (sl_X6_71) pd_yX6_requireRoom rfl ⟨by decide, by decide⟩ ⟨by decide, by decide⟩ rfl (Nat.le_of_ble_eq_true rfl) dX6_addPremium_41 ?_
    cases hE
    exact q_out hX hE0 (CxR_x hkr5 hR) (by decide) (by decide)
  rw [if_neg (fun h => h hkr5)] at hE
  refine q_callS (pc := 41) (As := [.ref (o 31), .int 6]) (rest := []) (rv := none) (st' := []) hX (MI_0 hkr5 (c_X6_requireRoom (tb_31 hn) hr5)) (sl_X6_71) pd_yX6_requireRoom rfl ⟨by decide, by decide⟩ ⟨by decide, by decide⟩ rfl (Nat.le_of_ble_eq_true rfl) rfl dX6_addPremium_41 ?_
  refine q_aload_n (pc := 44) hX 0 rfl rfl dX6_addPremium_44 ?_
  refine q_get (pc := 45) (id := 28) (ci := 6) (N := 6) (T := TX6) (C := RX6) hX 2 (lt46 (by decide)) rfl rfl in_X6 (by decide) (Or.inl kw_19) rfl dX6_addPremium_45 ?_
  refine q_iload_n (pc := 48) hX 1 rfl rfl dX6_addPremium_48 ?_
  refine q_iload_n (pc := 49) hX 2 rfl rfl dX6_addPremium_49 ?_
  refine q_iload_n (pc := 50) hX 3 rfl rfl dX6_addPremium_50 ?_
  refine q_iload (pc := 51) hX 4 rfl dX6_addPremium_51 ?_
  obtain ⟨r6, hr6, hE⟩ := ob_bind hE
  refine q_callV (pc := 53) (id := 30) (As := [.int x1, .int x2, .int x3, .int x4]) (rest := []) (rv := some (.int r6.1)) (st' := [.int r6.1]) hX (c_X2_add hr6) (vl_X6_125) (lt46 (by decide)) rfl rfl rfl pd_yX2_add rfl ⟨by decide, by decide⟩ ⟨by decide, by decide⟩ rfl (Nat.le_of_ble_eq_true rfl) rfl dX6_addPremium_53 ?_
  cases hE
  exact q_iret hX hR (by decide) (by decide) dX6_addPremium_56

set_option maxHeartbeats 4000000 in
theorem c_X6_removePremium {Y : Lx} {o : Nat → Nat} {hn : Nat} {M : Mem} {G : Mel} {x1 : Int32} {kr : Nat} {rr : Int32} {Mr : Mem} (hE : s_X6_removePremium M x1 = some (kr, rr, Mr)) : MI Y yX6_removePremium cX6_removePremium 2 (some .int) 8 132 1 6 [.ref (o 28), .int x1] o hn M G (rsOf kr (some (.int rr))) Mr G := by
  refine MI.of (by decide +kernel) (Nat.le_of_ble_eq_true rfl) (fun X hY hX hE0 hR => ?_)
  change CxOK X RX6 cX6_removePremium 2 8 132 1 6 (some .int) at hX
  show WM X o hn M G 0 0 0 2 [(0, .ref (o 28)), (1, .int x1)] []
  unfold s_X6_removePremium at hE
  refine q_aload_n (pc := 0) hX 0 rfl rfl dX6_removePremium_0 ?_
  refine q_get (pc := 1) (id := 28) (ci := 6) (N := 6) (T := TX6) (C := RX6) hX 2 (lt46 (by decide)) rfl rfl in_X6 (by decide) (Or.inl kw_19) rfl dX6_removePremium_1 ?_
  refine q_get (pc := 4) (id := 30) (ci := 2) (N := 1) (T := TX2) (C := RX2) hX 0 (lt46 (by decide)) rfl rfl in_X2 (by decide) (Or.inr ⟨_, fn_X6_122⟩) rfl dX6_removePremium_4 ?_
  refine q_iload_n (pc := 7) hX 1 rfl rfl dX6_removePremium_7 ?_
  obtain ⟨r1, hr1, hE⟩ := ob_bind hE
  by_cases hkr1 : r1.1 = 0
  rotate_left
  · rw [if_pos hkr1] at hE
    refine q_callSx (pc := 8) (As := [.ref (o 31), .int x1]) (rest := []) hX (MI_x hkr1 (c_X6_removeNumbered (tb_31 hn) hr1)) (sl_X6_116) pd_yX6_removeNumbered rfl ⟨by decide, by decide⟩ ⟨by decide, by decide⟩ rfl (Nat.le_of_ble_eq_true rfl) dX6_removePremium_8 ?_
    cases hE
    exact q_out hX hE0 (CxR_x hkr1 hR) (by decide) (by decide)
  rw [if_neg (fun h => h hkr1)] at hE
  refine q_callS (pc := 8) (As := [.ref (o 31), .int x1]) (rest := []) (rv := some (.int r1.2.1)) (st' := [.int r1.2.1]) hX (MI_0 hkr1 (c_X6_removeNumbered (tb_31 hn) hr1)) (sl_X6_116) pd_yX6_removeNumbered rfl ⟨by decide, by decide⟩ ⟨by decide, by decide⟩ rfl (Nat.le_of_ble_eq_true rfl) rfl dX6_removePremium_8 ?_
  cases hE
  exact q_iret hX hR (by decide) (by decide) dX6_removePremium_11

set_option maxHeartbeats 4000000 in
theorem c_X6_closeWeek {Y : Lx} {o : Nat → Nat} {hn : Nat} {M : Mem} {G : Mel} {x1 : Int32} {kr : Nat} {rr : Int32} {Mr : Mem} {Gr : Mel} (hE : s_X6_closeWeek M G hn x1 = some (kr, rr, Mr, Gr)) : MI Y yX6_closeWeek cX6_closeWeek 4 (some .int) 7 140 2 12 [.ref (o 28), .int x1] o hn M G (rsOf kr (some (.int rr))) Mr Gr := by
  refine MI.of (by decide +kernel) (Nat.le_of_ble_eq_true rfl) (fun X hY hX hE0 hR => ?_)
  change CxOK X RX6 cX6_closeWeek 4 7 140 2 12 (some .int) at hX
  show WM X o hn M G 0 0 0 4 [(0, .ref (o 28)), (1, .int x1)] []
  unfold s_X6_closeWeek at hE
  refine q_aload_n (pc := 0) hX 0 rfl rfl dX6_closeWeek_0 ?_
  refine q_iload_n (pc := 1) hX 1 rfl rfl dX6_closeWeek_1 ?_
  obtain ⟨r1, hr1, hE⟩ := ob_bind hE
  by_cases hkr1 : r1.1 = 0
  rotate_left
  · rw [if_pos hkr1] at hE
    refine q_callVx (pc := 2) (id := 28) (As := [.int x1]) (rest := []) hX (MI_x hkr1 (c_X6_find hr1)) (vl_X6_60) (lt46 (by decide)) rfl rfl rfl pd_yX6_find rfl ⟨by decide, by decide⟩ ⟨by decide, by decide⟩ rfl (Nat.le_of_ble_eq_true rfl) dX6_closeWeek_2 ?_
    cases hE
    exact q_out hX hE0 (CxR_x hkr1 hR) (by decide) (by decide)
  rw [if_neg (fun h => h hkr1)] at hE
  refine q_callV (pc := 2) (id := 28) (As := [.int x1]) (rest := []) (rv := some (.ref (o r1.2))) (st' := [.ref (o r1.2)]) hX (MI_0 hkr1 (c_X6_find hr1)) (vl_X6_60) (lt46 (by decide)) rfl rfl rfl pd_yX6_find rfl ⟨by decide, by decide⟩ ⟨by decide, by decide⟩ rfl (Nat.le_of_ble_eq_true rfl) rfl dX6_closeWeek_2 ?_
  have hemr1 := find_em hr1 hkr1
  refine q_astore_n (pc := 5) (lo' := [(0, .ref (o 28)), (1, .int x1), (2, .ref (o r1.2))]) hX [1, 2, 0] rfl (by decide) rfl dX6_closeWeek_5 ?_
  refine q_aload_n (pc := 6) hX 2 rfl rfl dX6_closeWeek_6 ?_
  refine q_get (pc := 7) (id := r1.2) (ci := 0) (N := 6) (T := TX0) (C := RX0) hX 3 (em_lt hemr1) (ob_E hemr1 _ _) rfl in_X0 (by decide) (Or.inr ⟨_, fn_X6_67⟩) rfl dX6_closeWeek_7 ?_
  obtain ⟨r2, hr2, hE⟩ := ob_bind hE
  refine q_callV (pc := 10) (id := (r1.2 + 1)) (As := []) (rest := []) (rv := some (.int r2)) (st' := [.int r2]) hX (c_X4_size (tb_e1 hemr1) hr2) (vl_X6_93) (tb_lt (tb_e1 hemr1)) (ob_T (tb_e1 hemr1).1 _ _) rfl rfl pd_yX4_size rfl ⟨by decide, by decide⟩ ⟨by decide, by decide⟩ rfl (Nat.le_of_ble_eq_true rfl) rfl dX6_closeWeek_10 ?_
  refine q_if_ne (pc := 13) hX 36 (by decide) dX6_closeWeek_13 (fun c => ?_) (fun c => ?_)
  · rw [if_neg c] at hE
    refine q_aload_n (pc := 36) hX 0 rfl rfl dX6_closeWeek_36 ?_
    refine q_get (pc := 37) (id := 28) (ci := 6) (N := 6) (T := TX6) (C := RX6) hX 3 (lt46 (by decide)) rfl rfl in_X6 (by decide) (Or.inl kw_23) rfl dX6_closeWeek_37 ?_
    refine q_aload_n (pc := 40) hX 2 rfl rfl dX6_closeWeek_40 ?_
    obtain ⟨r3, hr3, hE⟩ := ob_bind hE
    refine q_callV (pc := 41) (id := 33) (As := [.ref (o r1.2)]) (rest := []) (rv := none) (st' := []) hX (c_X1_read hemr1 hr3) (vl_X6_131) (lt46 (by decide)) rfl rfl rfl pd_yX1_read rfl ⟨by decide, by decide⟩ ⟨by decide, by decide⟩ rfl (Nat.le_of_ble_eq_true rfl) rfl dX6_closeWeek_41 ?_
    refine q_aload_n (pc := 44) hX 0 rfl rfl dX6_closeWeek_44 ?_
    refine q_get (pc := 45) (id := 28) (ci := 6) (N := 6) (T := TX6) (C := RX6) hX 3 (lt46 (by decide)) rfl rfl in_X6 (by decide) (Or.inl kw_23) rfl dX6_closeWeek_45 ?_
    refine q_aload_n (pc := 48) hX 2 rfl rfl dX6_closeWeek_48 ?_
    refine q_get (pc := 49) (id := r1.2) (ci := 0) (N := 6) (T := TX0) (C := RX0) hX 0 (em_lt hemr1) (ob_E hemr1 _ _) rfl in_X0 (by decide) (Or.inr ⟨_, fn_X6_64⟩) rfl dX6_closeWeek_49 ?_
    obtain ⟨r4, hr4, hE⟩ := ob_bind hE
    refine q_callV (pc := 52) (id := 33) (As := [.int (r3 r1.2 0)]) (rest := []) (rv := some (.int r4)) (st' := [.int r4]) hX (c_X1_basicPay hr4) (vl_X6_135) (lt46 (by decide)) rfl rfl rfl pd_yX1_basicPay rfl ⟨by decide, by decide⟩ ⟨by decide, by decide⟩ rfl (Nat.le_of_ble_eq_true rfl) rfl dX6_closeWeek_52 ?_
    refine q_aload_n (pc := 55) hX 0 rfl rfl dX6_closeWeek_55 ?_
    refine q_get (pc := 56) (id := 28) (ci := 6) (N := 6) (T := TX6) (C := RX6) hX 2 (lt46 (by decide)) rfl rfl in_X6 (by decide) (Or.inl kw_19) rfl dX6_closeWeek_56 ?_
    refine q_aload_n (pc := 59) hX 0 rfl rfl dX6_closeWeek_59 ?_
    refine q_get (pc := 60) (id := 28) (ci := 6) (N := 6) (T := TX6) (C := RX6) hX 3 (lt46 (by decide)) rfl rfl in_X6 (by decide) (Or.inl kw_23) rfl dX6_closeWeek_60 ?_
    refine q_get (pc := 63) (id := 33) (ci := 1) (N := 3) (T := TX1) (C := RX1) hX 2 (lt46 (by decide)) rfl rfl in_X1 (by decide) (Or.inr ⟨_, fn_X6_139⟩) rfl dX6_closeWeek_63 ?_
    obtain ⟨r5, hr5, hE⟩ := ob_bind hE
    refine q_callV (pc := 66) (id := 30) (As := [.ref (o 36)]) (rest := [.int r4]) (rv := some (.int r5)) (st' := [.int r5, .int r4]) hX (c_X2_payFor (tb_36 hn) hr5) (vl_X6_142) (lt46 (by decide)) rfl rfl rfl pd_yX2_payFor rfl ⟨by decide, by decide⟩ ⟨by decide, by decide⟩ rfl (Nat.le_of_ble_eq_true rfl) rfl dX6_closeWeek_66 ?_
    refine q_iadd (pc := 69) hX dX6_closeWeek_69 ?_
    refine q_nm (fun z6 hz6 => ?_)
    have hE := bnd_nm hz6 hE
    refine q_istore_n (pc := 70) (lo' := [(0, .ref (o 28)), (1, .int x1), (2, .ref (o r1.2)), (3, .int z6)]) hX [1, 2, 3, 0] rfl (by decide) rfl dX6_closeWeek_70 ?_
    refine q_aload_n (pc := 71) hX 2 rfl rfl dX6_closeWeek_71 ?_
    refine q_iload_n (pc := 72) hX 3 rfl rfl dX6_closeWeek_72 ?_
    obtain ⟨r7, hr7, hE⟩ := ob_bind hE
    refine q_callV (pc := 73) (id := r1.2) (As := [.int z6]) (rest := []) (rv := none) (st' := []) hX (c_X0_beginNextWeek hemr1 hr7) (vl_X6_146) (em_lt hemr1) (ob_E hemr1 _ _) rfl rfl pd_yX0_beginNextWeek rfl ⟨by decide, by decide⟩ ⟨by decide, by decide⟩ rfl (Nat.le_of_ble_eq_true rfl) rfl dX6_closeWeek_73 ?_
    refine q_iload_n (pc := 76) hX 3 rfl rfl dX6_closeWeek_76 ?_
    cases hE
    exact q_iret hX hR (by decide) (by decide) dX6_closeWeek_77
  · rw [if_pos c] at hE
    refine q_aload_n (pc := 16) hX 2 rfl rfl dX6_closeWeek_16 ?_
    refine q_get (pc := 17) (id := r1.2) (ci := 0) (N := 6) (T := TX0) (C := RX0) hX 4 (em_lt hemr1) (ob_E hemr1 _ _) rfl in_X0 (by decide) (Or.inr ⟨_, fn_X6_109⟩) rfl dX6_closeWeek_17 ?_
    obtain ⟨r8, hr8, hE⟩ := ob_bind hE
    refine q_callV (pc := 20) (id := (r1.2 + 3)) (As := []) (rest := []) (rv := some (.int r8)) (st' := [.int r8]) hX (c_X4_size (tb_e3 hemr1) hr8) (vl_X6_93) (tb_lt (tb_e3 hemr1)) (ob_T (tb_e3 hemr1).1 _ _) rfl rfl pd_yX4_size rfl ⟨by decide, by decide⟩ ⟨by decide, by decide⟩ rfl (Nat.le_of_ble_eq_true rfl) rfl dX6_closeWeek_20 ?_
    refine q_if_ne (pc := 23) hX 36 (by decide) dX6_closeWeek_23 (fun c => ?_) (fun c => ?_)
    · rw [if_neg c] at hE
      refine q_aload_n (pc := 36) hX 0 rfl rfl dX6_closeWeek_36 ?_
      refine q_get (pc := 37) (id := 28) (ci := 6) (N := 6) (T := TX6) (C := RX6) hX 3 (lt46 (by decide)) rfl rfl in_X6 (by decide) (Or.inl kw_23) rfl dX6_closeWeek_37 ?_
      refine q_aload_n (pc := 40) hX 2 rfl rfl dX6_closeWeek_40 ?_
      obtain ⟨r9, hr9, hE⟩ := ob_bind hE
      refine q_callV (pc := 41) (id := 33) (As := [.ref (o r1.2)]) (rest := []) (rv := none) (st' := []) hX (c_X1_read hemr1 hr9) (vl_X6_131) (lt46 (by decide)) rfl rfl rfl pd_yX1_read rfl ⟨by decide, by decide⟩ ⟨by decide, by decide⟩ rfl (Nat.le_of_ble_eq_true rfl) rfl dX6_closeWeek_41 ?_
      refine q_aload_n (pc := 44) hX 0 rfl rfl dX6_closeWeek_44 ?_
      refine q_get (pc := 45) (id := 28) (ci := 6) (N := 6) (T := TX6) (C := RX6) hX 3 (lt46 (by decide)) rfl rfl in_X6 (by decide) (Or.inl kw_23) rfl dX6_closeWeek_45 ?_
      refine q_aload_n (pc := 48) hX 2 rfl rfl dX6_closeWeek_48 ?_
      refine q_get (pc := 49) (id := r1.2) (ci := 0) (N := 6) (T := TX0) (C := RX0) hX 0 (em_lt hemr1) (ob_E hemr1 _ _) rfl in_X0 (by decide) (Or.inr ⟨_, fn_X6_64⟩) rfl dX6_closeWeek_49 ?_
      obtain ⟨r10, hr10, hE⟩ := ob_bind hE
      refine q_callV (pc := 52) (id := 33) (As := [.int (r9 r1.2 0)]) (rest := []) (rv := some (.int r10)) (st' := [.int r10]) hX (c_X1_basicPay hr10) (vl_X6_135) (lt46 (by decide)) rfl rfl rfl pd_yX1_basicPay rfl ⟨by decide, by decide⟩ ⟨by decide, by decide⟩ rfl (Nat.le_of_ble_eq_true rfl) rfl dX6_closeWeek_52 ?_
      refine q_aload_n (pc := 55) hX 0 rfl rfl dX6_closeWeek_55 ?_
      refine q_get (pc := 56) (id := 28) (ci := 6) (N := 6) (T := TX6) (C := RX6) hX 2 (lt46 (by decide)) rfl rfl in_X6 (by decide) (Or.inl kw_19) rfl dX6_closeWeek_56 ?_
      refine q_aload_n (pc := 59) hX 0 rfl rfl dX6_closeWeek_59 ?_
      refine q_get (pc := 60) (id := 28) (ci := 6) (N := 6) (T := TX6) (C := RX6) hX 3 (lt46 (by decide)) rfl rfl in_X6 (by decide) (Or.inl kw_23) rfl dX6_closeWeek_60 ?_
      refine q_get (pc := 63) (id := 33) (ci := 1) (N := 3) (T := TX1) (C := RX1) hX 2 (lt46 (by decide)) rfl rfl in_X1 (by decide) (Or.inr ⟨_, fn_X6_139⟩) rfl dX6_closeWeek_63 ?_
      obtain ⟨r11, hr11, hE⟩ := ob_bind hE
      refine q_callV (pc := 66) (id := 30) (As := [.ref (o 36)]) (rest := [.int r10]) (rv := some (.int r11)) (st' := [.int r11, .int r10]) hX (c_X2_payFor (tb_36 hn) hr11) (vl_X6_142) (lt46 (by decide)) rfl rfl rfl pd_yX2_payFor rfl ⟨by decide, by decide⟩ ⟨by decide, by decide⟩ rfl (Nat.le_of_ble_eq_true rfl) rfl dX6_closeWeek_66 ?_
      refine q_iadd (pc := 69) hX dX6_closeWeek_69 ?_
      refine q_nm (fun z12 hz12 => ?_)
      have hE := bnd_nm hz12 hE
      refine q_istore_n (pc := 70) (lo' := [(0, .ref (o 28)), (1, .int x1), (2, .ref (o r1.2)), (3, .int z12)]) hX [1, 2, 3, 0] rfl (by decide) rfl dX6_closeWeek_70 ?_
      refine q_aload_n (pc := 71) hX 2 rfl rfl dX6_closeWeek_71 ?_
      refine q_iload_n (pc := 72) hX 3 rfl rfl dX6_closeWeek_72 ?_
      obtain ⟨r13, hr13, hE⟩ := ob_bind hE
      refine q_callV (pc := 73) (id := r1.2) (As := [.int z12]) (rest := []) (rv := none) (st' := []) hX (c_X0_beginNextWeek hemr1 hr13) (vl_X6_146) (em_lt hemr1) (ob_E hemr1 _ _) rfl rfl pd_yX0_beginNextWeek rfl ⟨by decide, by decide⟩ ⟨by decide, by decide⟩ rfl (Nat.le_of_ble_eq_true rfl) rfl dX6_closeWeek_73 ?_
      refine q_iload_n (pc := 76) hX 3 rfl rfl dX6_closeWeek_76 ?_
      cases hE
      exact q_iret hX hR (by decide) (by decide) dX6_closeWeek_77
    · rw [if_pos c] at hE
      cases hE
      exact q_throwS (pc := 26) (E := eISE) (text := "the week has no punch and no entry") (ik := 50) (is := 129) (ic := 54) hX hE0 hR kw_117 kw_118 (by decide) (by decide +kernel) at_2 ot_2 (by decide) (by decide) (Nat.le_of_ble_eq_true rfl) (by decide) (by decide) dX6_closeWeek_26 dX6_closeWeek_29 dX6_closeWeek_30 dX6_closeWeek_32 dX6_closeWeek_35

set_option maxHeartbeats 4000000 in
theorem c_X6_employees {Y : Lx} {o : Nat → Nat} {hn : Nat} {M : Mem} {G : Mel} {rr : Int32} (hE : s_X6_employees hn = some (rr)) : MI Y yX6_employees cX6_employees 1 (some .int) 0 0 0 0 [.ref (o 28)] o hn M G (.inl (some (.int rr))) M G := by
  refine MI.of (by decide +kernel) (Nat.le_of_ble_eq_true rfl) (fun X hY hX hE0 hR => ?_)
  change CxOK X RX6 cX6_employees 1 0 0 0 0 (some .int) at hX
  show WM X o hn M G 0 0 0 1 [(0, .ref (o 28))] []
  unfold s_X6_employees at hE
  refine q_aload_n (pc := 0) hX 0 rfl rfl dX6_employees_0 ?_
  refine q_get (pc := 1) (id := 28) (ci := 6) (N := 6) (T := TX6) (C := RX6) hX 1 (lt46 (by decide)) rfl rfl in_X6 (by decide) (Or.inl kw_15) rfl dX6_employees_1 ?_
  cases hE
  exact q_iret hX hR (by decide) (by decide) dX6_employees_4

set_option maxHeartbeats 4000000 in
theorem c_X6_closedWeeks {Y : Lx} {o : Nat → Nat} {hn : Nat} {M : Mem} {G : Mel} {x1 : Int32} {kr : Nat} {rr : Int32} (hE : s_X6_closedWeeks M hn x1 = some (kr, rr)) : MI Y yX6_closedWeeks cX6_closedWeeks 2 (some .int) 7 112 1 6 [.ref (o 28), .int x1] o hn M G (rsOf kr (some (.int rr))) M G := by
  refine MI.of (by decide +kernel) (Nat.le_of_ble_eq_true rfl) (fun X hY hX hE0 hR => ?_)
  change CxOK X RX6 cX6_closedWeeks 2 7 112 1 6 (some .int) at hX
  show WM X o hn M G 0 0 0 2 [(0, .ref (o 28)), (1, .int x1)] []
  unfold s_X6_closedWeeks at hE
  refine q_aload_n (pc := 0) hX 0 rfl rfl dX6_closedWeeks_0 ?_
  refine q_iload_n (pc := 1) hX 1 rfl rfl dX6_closedWeeks_1 ?_
  obtain ⟨r1, hr1, hE⟩ := ob_bind hE
  by_cases hkr1 : r1.1 = 0
  rotate_left
  · rw [if_pos hkr1] at hE
    refine q_callVx (pc := 2) (id := 28) (As := [.int x1]) (rest := []) hX (MI_x hkr1 (c_X6_find hr1)) (vl_X6_60) (lt46 (by decide)) rfl rfl rfl pd_yX6_find rfl ⟨by decide, by decide⟩ ⟨by decide, by decide⟩ rfl (Nat.le_of_ble_eq_true rfl) dX6_closedWeeks_2 ?_
    cases hE
    exact q_out hX hE0 (CxR_x hkr1 hR) (by decide) (by decide)
  rw [if_neg (fun h => h hkr1)] at hE
  refine q_callV (pc := 2) (id := 28) (As := [.int x1]) (rest := []) (rv := some (.ref (o r1.2))) (st' := [.ref (o r1.2)]) hX (MI_0 hkr1 (c_X6_find hr1)) (vl_X6_60) (lt46 (by decide)) rfl rfl rfl pd_yX6_find rfl ⟨by decide, by decide⟩ ⟨by decide, by decide⟩ rfl (Nat.le_of_ble_eq_true rfl) rfl dX6_closedWeeks_2 ?_
  have hemr1 := find_em hr1 hkr1
  refine q_get (pc := 5) (id := r1.2) (ci := 0) (N := 6) (T := TX0) (C := RX0) hX 1 (em_lt hemr1) (ob_E hemr1 _ _) rfl in_X0 (by decide) (Or.inr ⟨_, fn_X6_149⟩) rfl dX6_closedWeeks_5 ?_
  cases hE
  exact q_iret hX hR (by decide) (by decide) dX6_closedWeeks_8

set_option maxHeartbeats 4000000 in
theorem c_X6_earned {Y : Lx} {o : Nat → Nat} {hn : Nat} {M : Mem} {G : Mel} {x1 : Int32} {kr : Nat} {rr : Int64} (hE : s_X6_earned G hn x1 = some (kr, rr)) : MI Y yX6_earned cX6_earned 2 (some .long) 7 112 1 6 [.ref (o 28), .int x1] o hn M G (rsOf kr (some (.long rr))) M G := by
  refine MI.of (by decide +kernel) (Nat.le_of_ble_eq_true rfl) (fun X hY hX hE0 hR => ?_)
  change CxOK X RX6 cX6_earned 2 7 112 1 6 (some .long) at hX
  show WM X o hn M G 0 0 0 2 [(0, .ref (o 28)), (1, .int x1)] []
  unfold s_X6_earned at hE
  refine q_aload_n (pc := 0) hX 0 rfl rfl dX6_earned_0 ?_
  refine q_iload_n (pc := 1) hX 1 rfl rfl dX6_earned_1 ?_
  obtain ⟨r1, hr1, hE⟩ := ob_bind hE
  by_cases hkr1 : r1.1 = 0
  rotate_left
  · rw [if_pos hkr1] at hE
    refine q_callVx (pc := 2) (id := 28) (As := [.int x1]) (rest := []) hX (MI_x hkr1 (c_X6_find hr1)) (vl_X6_60) (lt46 (by decide)) rfl rfl rfl pd_yX6_find rfl ⟨by decide, by decide⟩ ⟨by decide, by decide⟩ rfl (Nat.le_of_ble_eq_true rfl) dX6_earned_2 ?_
    cases hE
    exact q_out hX hE0 (CxR_x hkr1 hR) (by decide) (by decide)
  rw [if_neg (fun h => h hkr1)] at hE
  refine q_callV (pc := 2) (id := 28) (As := [.int x1]) (rest := []) (rv := some (.ref (o r1.2))) (st' := [.ref (o r1.2)]) hX (MI_0 hkr1 (c_X6_find hr1)) (vl_X6_60) (lt46 (by decide)) rfl rfl rfl pd_yX6_find rfl ⟨by decide, by decide⟩ ⟨by decide, by decide⟩ rfl (Nat.le_of_ble_eq_true rfl) rfl dX6_earned_2 ?_
  have hemr1 := find_em hr1 hkr1
  refine q_get (pc := 5) (id := r1.2) (ci := 0) (N := 6) (T := TX0) (C := RX0) hX 2 (em_lt hemr1) (ob_E hemr1 _ _) rfl in_X0 (by decide) (Or.inr ⟨_, fn_X6_152⟩) rfl dX6_earned_5 ?_
  cases hE
  exact q_lret hX hR (by decide) (by decide) dX6_earned_8

set_option maxHeartbeats 4000000 in
theorem c_X6_shifts {Y : Lx} {o : Nat → Nat} {hn : Nat} {M : Mem} {G : Mel} {x1 : Int32} {kr : Nat} {rr : Int32} {Mr : Mem} (hE : s_X6_shifts M hn x1 = some (kr, rr, Mr)) : MI Y yX6_shifts cX6_shifts 2 (some .int) 7 112 1 6 [.ref (o 28), .int x1] o hn M G (rsOf kr (some (.int rr))) Mr G := by
  refine MI.of (by decide +kernel) (Nat.le_of_ble_eq_true rfl) (fun X hY hX hE0 hR => ?_)
  change CxOK X RX6 cX6_shifts 2 7 112 1 6 (some .int) at hX
  show WM X o hn M G 0 0 0 2 [(0, .ref (o 28)), (1, .int x1)] []
  unfold s_X6_shifts at hE
  refine q_aload_n (pc := 0) hX 0 rfl rfl dX6_shifts_0 ?_
  refine q_get (pc := 1) (id := 28) (ci := 6) (N := 6) (T := TX6) (C := RX6) hX 5 (lt46 (by decide)) rfl rfl in_X6 (by decide) (Or.inl kw_25) rfl dX6_shifts_1 ?_
  refine q_aload_n (pc := 4) hX 0 rfl rfl dX6_shifts_4 ?_
  refine q_iload_n (pc := 5) hX 1 rfl rfl dX6_shifts_5 ?_
  obtain ⟨r1, hr1, hE⟩ := ob_bind hE
  by_cases hkr1 : r1.1 = 0
  rotate_left
  · rw [if_pos hkr1] at hE
    refine q_callVx (pc := 6) (id := 28) (As := [.int x1]) (rest := [.ref (o 43)]) hX (MI_x hkr1 (c_X6_find hr1)) (vl_X6_60) (lt46 (by decide)) rfl rfl rfl pd_yX6_find rfl ⟨by decide, by decide⟩ ⟨by decide, by decide⟩ rfl (Nat.le_of_ble_eq_true rfl) dX6_shifts_6 ?_
    cases hE
    exact q_out hX hE0 (CxR_x hkr1 hR) (by decide) (by decide)
  rw [if_neg (fun h => h hkr1)] at hE
  refine q_callV (pc := 6) (id := 28) (As := [.int x1]) (rest := [.ref (o 43)]) (rv := some (.ref (o r1.2))) (st' := [.ref (o r1.2), .ref (o 43)]) hX (MI_0 hkr1 (c_X6_find hr1)) (vl_X6_60) (lt46 (by decide)) rfl rfl rfl pd_yX6_find rfl ⟨by decide, by decide⟩ ⟨by decide, by decide⟩ rfl (Nat.le_of_ble_eq_true rfl) rfl dX6_shifts_6 ?_
  have hemr1 := find_em hr1 hkr1
  refine q_get (pc := 9) (id := r1.2) (ci := 0) (N := 6) (T := TX0) (C := RX0) hX 3 (em_lt hemr1) (ob_E hemr1 _ _) rfl in_X0 (by decide) (Or.inr ⟨_, fn_X6_67⟩) rfl dX6_shifts_9 ?_
  obtain ⟨r2, hr2, hE⟩ := ob_bind hE
  refine q_callV (pc := 12) (id := 43) (As := [.ref (o (r1.2 + 1))]) (rest := []) (rv := none) (st' := []) hX (c_X3_read (tb_e1 hemr1) hr2) (vl_X6_156) (lt46 (by decide)) rfl rfl rfl pd_yX3_read rfl ⟨by decide, by decide⟩ ⟨by decide, by decide⟩ rfl (Nat.le_of_ble_eq_true rfl) rfl dX6_shifts_12 ?_
  refine q_aload_n (pc := 15) hX 0 rfl rfl dX6_shifts_15 ?_
  refine q_get (pc := 16) (id := 28) (ci := 6) (N := 6) (T := TX6) (C := RX6) hX 5 (lt46 (by decide)) rfl rfl in_X6 (by decide) (Or.inl kw_25) rfl dX6_shifts_16 ?_
  refine q_get (pc := 19) (id := 43) (ci := 3) (N := 2) (T := TX3) (C := RX3) hX 0 (lt46 (by decide)) rfl rfl in_X3 (by decide) (Or.inr ⟨_, fn_X6_161⟩) rfl dX6_shifts_19 ?_
  obtain ⟨r3, hr3, hE⟩ := ob_bind hE
  refine q_callV (pc := 22) (id := 44) (As := []) (rest := []) (rv := some (.int r3)) (st' := [.int r3]) hX (c_X4_size (tb_44 hn) hr3) (vl_X6_93) (lt46 (by decide)) (ob_T (tb_44 hn).1 _ _) rfl rfl pd_yX4_size rfl ⟨by decide, by decide⟩ ⟨by decide, by decide⟩ rfl (Nat.le_of_ble_eq_true rfl) rfl dX6_shifts_22 ?_
  cases hE
  exact q_iret hX hR (by decide) (by decide) dX6_shifts_25

set_option maxHeartbeats 4000000 in
theorem c_X6_shiftBegin {Y : Lx} {o : Nat → Nat} {hn : Nat} {M : Mem} {G : Mel} {x1 : Int32} {x2 : Int32} {kr : Nat} {rr : Int32} {Mr : Mem} (hE : s_X6_shiftBegin M hn x1 x2 = some (kr, rr, Mr)) : MI Y yX6_shiftBegin cX6_shiftBegin 3 (some .int) 7 112 2 12 [.ref (o 28), .int x1, .int x2] o hn M G (rsOf kr (some (.int rr))) Mr G := by
  refine MI.of (by decide +kernel) (Nat.le_of_ble_eq_true rfl) (fun X hY hX hE0 hR => ?_)
  change CxOK X RX6 cX6_shiftBegin 3 7 112 2 12 (some .int) at hX
  show WM X o hn M G 0 0 0 3 [(0, .ref (o 28)), (1, .int x1), (2, .int x2)] []
  unfold s_X6_shiftBegin at hE
  refine q_aload_n (pc := 0) hX 0 rfl rfl dX6_shiftBegin_0 ?_
  refine q_get (pc := 1) (id := 28) (ci := 6) (N := 6) (T := TX6) (C := RX6) hX 5 (lt46 (by decide)) rfl rfl in_X6 (by decide) (Or.inl kw_25) rfl dX6_shiftBegin_1 ?_
  refine q_aload_n (pc := 4) hX 0 rfl rfl dX6_shiftBegin_4 ?_
  refine q_iload_n (pc := 5) hX 1 rfl rfl dX6_shiftBegin_5 ?_
  obtain ⟨r1, hr1, hE⟩ := ob_bind hE
  by_cases hkr1 : r1.1 = 0
  rotate_left
  · rw [if_pos hkr1] at hE
    refine q_callVx (pc := 6) (id := 28) (As := [.int x1]) (rest := [.ref (o 43)]) hX (MI_x hkr1 (c_X6_find hr1)) (vl_X6_60) (lt46 (by decide)) rfl rfl rfl pd_yX6_find rfl ⟨by decide, by decide⟩ ⟨by decide, by decide⟩ rfl (Nat.le_of_ble_eq_true rfl) dX6_shiftBegin_6 ?_
    cases hE
    exact q_out hX hE0 (CxR_x hkr1 hR) (by decide) (by decide)
  rw [if_neg (fun h => h hkr1)] at hE
  refine q_callV (pc := 6) (id := 28) (As := [.int x1]) (rest := [.ref (o 43)]) (rv := some (.ref (o r1.2))) (st' := [.ref (o r1.2), .ref (o 43)]) hX (MI_0 hkr1 (c_X6_find hr1)) (vl_X6_60) (lt46 (by decide)) rfl rfl rfl pd_yX6_find rfl ⟨by decide, by decide⟩ ⟨by decide, by decide⟩ rfl (Nat.le_of_ble_eq_true rfl) rfl dX6_shiftBegin_6 ?_
  have hemr1 := find_em hr1 hkr1
  refine q_get (pc := 9) (id := r1.2) (ci := 0) (N := 6) (T := TX0) (C := RX0) hX 3 (em_lt hemr1) (ob_E hemr1 _ _) rfl in_X0 (by decide) (Or.inr ⟨_, fn_X6_67⟩) rfl dX6_shiftBegin_9 ?_
  obtain ⟨r2, hr2, hE⟩ := ob_bind hE
  refine q_callV (pc := 12) (id := 43) (As := [.ref (o (r1.2 + 1))]) (rest := []) (rv := none) (st' := []) hX (c_X3_read (tb_e1 hemr1) hr2) (vl_X6_156) (lt46 (by decide)) rfl rfl rfl pd_yX3_read rfl ⟨by decide, by decide⟩ ⟨by decide, by decide⟩ rfl (Nat.le_of_ble_eq_true rfl) rfl dX6_shiftBegin_12 ?_
  refine q_aload_n (pc := 15) hX 0 rfl rfl dX6_shiftBegin_15 ?_
  refine q_get (pc := 16) (id := 28) (ci := 6) (N := 6) (T := TX6) (C := RX6) hX 5 (lt46 (by decide)) rfl rfl in_X6 (by decide) (Or.inl kw_25) rfl dX6_shiftBegin_16 ?_
  refine q_get (pc := 19) (id := 43) (ci := 3) (N := 2) (T := TX3) (C := RX3) hX 0 (lt46 (by decide)) rfl rfl in_X3 (by decide) (Or.inr ⟨_, fn_X6_161⟩) rfl dX6_shiftBegin_19 ?_
  refine q_iload_n (pc := 22) hX 2 rfl rfl dX6_shiftBegin_22 ?_
  obtain ⟨r3, hr3, hE⟩ := ob_bind hE
  by_cases hkr3 : r3 = 0
  rotate_left
  · rw [if_pos hkr3] at hE
    refine q_callSx (pc := 23) (As := [.ref (o 44), .int x2]) (rest := []) hX (MI_x hkr3 (c_X6_requireNumber (tb_44 hn) hr3)) (sl_X6_164) pd_yX6_requireNumber rfl ⟨by decide, by decide⟩ ⟨by decide, by decide⟩ rfl (Nat.le_of_ble_eq_true rfl) dX6_shiftBegin_23 ?_
    cases hE
    exact q_out hX hE0 (CxR_x hkr3 hR) (by decide) (by decide)
  rw [if_neg (fun h => h hkr3)] at hE
  refine q_callS (pc := 23) (As := [.ref (o 44), .int x2]) (rest := []) (rv := none) (st' := []) hX (MI_0 hkr3 (c_X6_requireNumber (tb_44 hn) hr3)) (sl_X6_164) pd_yX6_requireNumber rfl ⟨by decide, by decide⟩ ⟨by decide, by decide⟩ rfl (Nat.le_of_ble_eq_true rfl) rfl dX6_shiftBegin_23 ?_
  refine q_aload_n (pc := 26) hX 0 rfl rfl dX6_shiftBegin_26 ?_
  refine q_get (pc := 27) (id := 28) (ci := 6) (N := 6) (T := TX6) (C := RX6) hX 5 (lt46 (by decide)) rfl rfl in_X6 (by decide) (Or.inl kw_25) rfl dX6_shiftBegin_27 ?_
  refine q_get (pc := 30) (id := 43) (ci := 3) (N := 2) (T := TX3) (C := RX3) hX 0 (lt46 (by decide)) rfl rfl in_X3 (by decide) (Or.inr ⟨_, fn_X6_161⟩) rfl dX6_shiftBegin_30 ?_
  refine q_iload_n (pc := 33) hX 2 rfl rfl dX6_shiftBegin_33 ?_
  refine q_iconst (pc := 34) hX (0) rfl dX6_shiftBegin_34 ?_
  obtain ⟨r4, hr4, hE⟩ := ob_bind hE
  refine q_callV (pc := 35) (id := 44) (As := [.int x2, .int 0]) (rest := []) (rv := some (.int r4)) (st' := [.int r4]) hX (c_X4_get (tb_44 hn) hr4) (vl_X6_102) (lt46 (by decide)) (ob_T (tb_44 hn).1 _ _) rfl rfl pd_yX4_get rfl ⟨by decide, by decide⟩ ⟨by decide, by decide⟩ rfl (Nat.le_of_ble_eq_true rfl) rfl dX6_shiftBegin_35 ?_
  cases hE
  exact q_iret hX hR (by decide) (by decide) dX6_shiftBegin_38

set_option maxHeartbeats 4000000 in
theorem c_X6_shiftEnd {Y : Lx} {o : Nat → Nat} {hn : Nat} {M : Mem} {G : Mel} {x1 : Int32} {x2 : Int32} {kr : Nat} {rr : Int32} {Mr : Mem} (hE : s_X6_shiftEnd M hn x1 x2 = some (kr, rr, Mr)) : MI Y yX6_shiftEnd cX6_shiftEnd 3 (some .int) 7 112 2 12 [.ref (o 28), .int x1, .int x2] o hn M G (rsOf kr (some (.int rr))) Mr G := by
  refine MI.of (by decide +kernel) (Nat.le_of_ble_eq_true rfl) (fun X hY hX hE0 hR => ?_)
  change CxOK X RX6 cX6_shiftEnd 3 7 112 2 12 (some .int) at hX
  show WM X o hn M G 0 0 0 3 [(0, .ref (o 28)), (1, .int x1), (2, .int x2)] []
  unfold s_X6_shiftEnd at hE
  refine q_aload_n (pc := 0) hX 0 rfl rfl dX6_shiftEnd_0 ?_
  refine q_get (pc := 1) (id := 28) (ci := 6) (N := 6) (T := TX6) (C := RX6) hX 5 (lt46 (by decide)) rfl rfl in_X6 (by decide) (Or.inl kw_25) rfl dX6_shiftEnd_1 ?_
  refine q_aload_n (pc := 4) hX 0 rfl rfl dX6_shiftEnd_4 ?_
  refine q_iload_n (pc := 5) hX 1 rfl rfl dX6_shiftEnd_5 ?_
  obtain ⟨r1, hr1, hE⟩ := ob_bind hE
  by_cases hkr1 : r1.1 = 0
  rotate_left
  · rw [if_pos hkr1] at hE
    refine q_callVx (pc := 6) (id := 28) (As := [.int x1]) (rest := [.ref (o 43)]) hX (MI_x hkr1 (c_X6_find hr1)) (vl_X6_60) (lt46 (by decide)) rfl rfl rfl pd_yX6_find rfl ⟨by decide, by decide⟩ ⟨by decide, by decide⟩ rfl (Nat.le_of_ble_eq_true rfl) dX6_shiftEnd_6 ?_
    cases hE
    exact q_out hX hE0 (CxR_x hkr1 hR) (by decide) (by decide)
  rw [if_neg (fun h => h hkr1)] at hE
  refine q_callV (pc := 6) (id := 28) (As := [.int x1]) (rest := [.ref (o 43)]) (rv := some (.ref (o r1.2))) (st' := [.ref (o r1.2), .ref (o 43)]) hX (MI_0 hkr1 (c_X6_find hr1)) (vl_X6_60) (lt46 (by decide)) rfl rfl rfl pd_yX6_find rfl ⟨by decide, by decide⟩ ⟨by decide, by decide⟩ rfl (Nat.le_of_ble_eq_true rfl) rfl dX6_shiftEnd_6 ?_
  have hemr1 := find_em hr1 hkr1
  refine q_get (pc := 9) (id := r1.2) (ci := 0) (N := 6) (T := TX0) (C := RX0) hX 3 (em_lt hemr1) (ob_E hemr1 _ _) rfl in_X0 (by decide) (Or.inr ⟨_, fn_X6_67⟩) rfl dX6_shiftEnd_9 ?_
  obtain ⟨r2, hr2, hE⟩ := ob_bind hE
  refine q_callV (pc := 12) (id := 43) (As := [.ref (o (r1.2 + 1))]) (rest := []) (rv := none) (st' := []) hX (c_X3_read (tb_e1 hemr1) hr2) (vl_X6_156) (lt46 (by decide)) rfl rfl rfl pd_yX3_read rfl ⟨by decide, by decide⟩ ⟨by decide, by decide⟩ rfl (Nat.le_of_ble_eq_true rfl) rfl dX6_shiftEnd_12 ?_
  refine q_aload_n (pc := 15) hX 0 rfl rfl dX6_shiftEnd_15 ?_
  refine q_get (pc := 16) (id := 28) (ci := 6) (N := 6) (T := TX6) (C := RX6) hX 5 (lt46 (by decide)) rfl rfl in_X6 (by decide) (Or.inl kw_25) rfl dX6_shiftEnd_16 ?_
  refine q_get (pc := 19) (id := 43) (ci := 3) (N := 2) (T := TX3) (C := RX3) hX 0 (lt46 (by decide)) rfl rfl in_X3 (by decide) (Or.inr ⟨_, fn_X6_161⟩) rfl dX6_shiftEnd_19 ?_
  refine q_iload_n (pc := 22) hX 2 rfl rfl dX6_shiftEnd_22 ?_
  obtain ⟨r3, hr3, hE⟩ := ob_bind hE
  by_cases hkr3 : r3 = 0
  rotate_left
  · rw [if_pos hkr3] at hE
    refine q_callSx (pc := 23) (As := [.ref (o 44), .int x2]) (rest := []) hX (MI_x hkr3 (c_X6_requireNumber (tb_44 hn) hr3)) (sl_X6_164) pd_yX6_requireNumber rfl ⟨by decide, by decide⟩ ⟨by decide, by decide⟩ rfl (Nat.le_of_ble_eq_true rfl) dX6_shiftEnd_23 ?_
    cases hE
    exact q_out hX hE0 (CxR_x hkr3 hR) (by decide) (by decide)
  rw [if_neg (fun h => h hkr3)] at hE
  refine q_callS (pc := 23) (As := [.ref (o 44), .int x2]) (rest := []) (rv := none) (st' := []) hX (MI_0 hkr3 (c_X6_requireNumber (tb_44 hn) hr3)) (sl_X6_164) pd_yX6_requireNumber rfl ⟨by decide, by decide⟩ ⟨by decide, by decide⟩ rfl (Nat.le_of_ble_eq_true rfl) rfl dX6_shiftEnd_23 ?_
  refine q_aload_n (pc := 26) hX 0 rfl rfl dX6_shiftEnd_26 ?_
  refine q_get (pc := 27) (id := 28) (ci := 6) (N := 6) (T := TX6) (C := RX6) hX 5 (lt46 (by decide)) rfl rfl in_X6 (by decide) (Or.inl kw_25) rfl dX6_shiftEnd_27 ?_
  refine q_get (pc := 30) (id := 43) (ci := 3) (N := 2) (T := TX3) (C := RX3) hX 0 (lt46 (by decide)) rfl rfl in_X3 (by decide) (Or.inr ⟨_, fn_X6_161⟩) rfl dX6_shiftEnd_30 ?_
  refine q_iload_n (pc := 33) hX 2 rfl rfl dX6_shiftEnd_33 ?_
  refine q_iconst (pc := 34) hX (1) rfl dX6_shiftEnd_34 ?_
  obtain ⟨r4, hr4, hE⟩ := ob_bind hE
  refine q_callV (pc := 35) (id := 44) (As := [.int x2, .int 1]) (rest := []) (rv := some (.int r4)) (st' := [.int r4]) hX (c_X4_get (tb_44 hn) hr4) (vl_X6_102) (lt46 (by decide)) (ob_T (tb_44 hn).1 _ _) rfl rfl pd_yX4_get rfl ⟨by decide, by decide⟩ ⟨by decide, by decide⟩ rfl (Nat.le_of_ble_eq_true rfl) rfl dX6_shiftEnd_35 ?_
  cases hE
  exact q_iret hX hR (by decide) (by decide) dX6_shiftEnd_38

set_option maxHeartbeats 4000000 in
theorem c_X6_repairedShifts {Y : Lx} {o : Nat → Nat} {hn : Nat} {M : Mem} {G : Mel} {x1 : Int32} {kr : Nat} {rr : Int32} {Mr : Mem} (hE : s_X6_repairedShifts M hn x1 = some (kr, rr, Mr)) : MI Y yX6_repairedShifts cX6_repairedShifts 2 (some .int) 7 112 1 6 [.ref (o 28), .int x1] o hn M G (rsOf kr (some (.int rr))) Mr G := by
  refine MI.of (by decide +kernel) (Nat.le_of_ble_eq_true rfl) (fun X hY hX hE0 hR => ?_)
  change CxOK X RX6 cX6_repairedShifts 2 7 112 1 6 (some .int) at hX
  show WM X o hn M G 0 0 0 2 [(0, .ref (o 28)), (1, .int x1)] []
  unfold s_X6_repairedShifts at hE
  refine q_aload_n (pc := 0) hX 0 rfl rfl dX6_repairedShifts_0 ?_
  refine q_get (pc := 1) (id := 28) (ci := 6) (N := 6) (T := TX6) (C := RX6) hX 5 (lt46 (by decide)) rfl rfl in_X6 (by decide) (Or.inl kw_25) rfl dX6_repairedShifts_1 ?_
  refine q_aload_n (pc := 4) hX 0 rfl rfl dX6_repairedShifts_4 ?_
  refine q_iload_n (pc := 5) hX 1 rfl rfl dX6_repairedShifts_5 ?_
  obtain ⟨r1, hr1, hE⟩ := ob_bind hE
  by_cases hkr1 : r1.1 = 0
  rotate_left
  · rw [if_pos hkr1] at hE
    refine q_callVx (pc := 6) (id := 28) (As := [.int x1]) (rest := [.ref (o 43)]) hX (MI_x hkr1 (c_X6_find hr1)) (vl_X6_60) (lt46 (by decide)) rfl rfl rfl pd_yX6_find rfl ⟨by decide, by decide⟩ ⟨by decide, by decide⟩ rfl (Nat.le_of_ble_eq_true rfl) dX6_repairedShifts_6 ?_
    cases hE
    exact q_out hX hE0 (CxR_x hkr1 hR) (by decide) (by decide)
  rw [if_neg (fun h => h hkr1)] at hE
  refine q_callV (pc := 6) (id := 28) (As := [.int x1]) (rest := [.ref (o 43)]) (rv := some (.ref (o r1.2))) (st' := [.ref (o r1.2), .ref (o 43)]) hX (MI_0 hkr1 (c_X6_find hr1)) (vl_X6_60) (lt46 (by decide)) rfl rfl rfl pd_yX6_find rfl ⟨by decide, by decide⟩ ⟨by decide, by decide⟩ rfl (Nat.le_of_ble_eq_true rfl) rfl dX6_repairedShifts_6 ?_
  have hemr1 := find_em hr1 hkr1
  refine q_get (pc := 9) (id := r1.2) (ci := 0) (N := 6) (T := TX0) (C := RX0) hX 3 (em_lt hemr1) (ob_E hemr1 _ _) rfl in_X0 (by decide) (Or.inr ⟨_, fn_X6_67⟩) rfl dX6_repairedShifts_9 ?_
  obtain ⟨r2, hr2, hE⟩ := ob_bind hE
  refine q_callV (pc := 12) (id := 43) (As := [.ref (o (r1.2 + 1))]) (rest := []) (rv := none) (st' := []) hX (c_X3_read (tb_e1 hemr1) hr2) (vl_X6_156) (lt46 (by decide)) rfl rfl rfl pd_yX3_read rfl ⟨by decide, by decide⟩ ⟨by decide, by decide⟩ rfl (Nat.le_of_ble_eq_true rfl) rfl dX6_repairedShifts_12 ?_
  refine q_aload_n (pc := 15) hX 0 rfl rfl dX6_repairedShifts_15 ?_
  refine q_get (pc := 16) (id := 28) (ci := 6) (N := 6) (T := TX6) (C := RX6) hX 5 (lt46 (by decide)) rfl rfl in_X6 (by decide) (Or.inl kw_25) rfl dX6_repairedShifts_16 ?_
  refine q_get (pc := 19) (id := 43) (ci := 3) (N := 2) (T := TX3) (C := RX3) hX 1 (lt46 (by decide)) rfl rfl in_X3 (by decide) (Or.inr ⟨_, fn_X6_167⟩) rfl dX6_repairedShifts_19 ?_
  cases hE
  exact q_iret hX hR (by decide) (by decide) dX6_repairedShifts_22

set_option maxHeartbeats 4000000 in
theorem l_X6_countContaining_4 {X : Cx} (hX : CxOK X RX6 cX6_countContaining 4 1 23 0 0 (some .int)) (hE0 : CxE X []) {o : Nat → Nat} {hn : Nat} {M : Mem} {t0 : Nat} {x1 : Int32} {G : Mel} (ht0 : tb hn t0) : ∀ (f : Nat) (y1 : Int32) (y2 : Int32) (p10 : Int32 × Int32), L_X6_countContaining_4 M t0 x1 f y1 y2 = some p10 → WM X o hn M G 0 0 41 4 [(0, .ref (o t0)), (1, .int x1), (2, .int p10.1), (3, .int p10.2)] [] → WM X o hn M G 0 0 4 4 [(0, .ref (o t0)), (1, .int x1), (2, .int y1), (3, .int y2)] [] := by
  intro f
  induction f with
  | zero => intro y1 y2 p10 hE; simp [L_X6_countContaining_4] at hE
  | succ f ih =>
    intro y1 y2 p10 hE hx
    rw [L_X6_countContaining_4] at hE
    refine q_iload_n (pc := 4) hX 3 rfl rfl dX6_countContaining_4 ?_
    refine q_aload_n (pc := 5) hX 0 rfl rfl dX6_countContaining_5 ?_
    obtain ⟨r3, hr3, hE⟩ := ob_bind hE
    refine q_callV (pc := 6) (id := t0) (As := []) (rest := [.int y2]) (rv := some (.int r3)) (st' := [.int r3, .int y2]) hX (c_X4_size ht0 hr3) (vl_X6_93) (tb_lt ht0) (ob_T ht0.1 _ _) rfl rfl pd_yX4_size rfl ⟨by decide, by decide⟩ ⟨by decide, by decide⟩ rfl (Nat.le_of_ble_eq_true rfl) rfl dX6_countContaining_6 ?_
    refine q_icmp_ge (pc := 9) hX 41 (by decide) dX6_countContaining_9 (fun c => ?_) (fun c => ?_)
    · rw [if_pos c] at hE
      cases hE
      exact hx
    · rw [if_neg c] at hE
      refine q_aload_n (pc := 12) hX 0 rfl rfl dX6_countContaining_12 ?_
      refine q_iload_n (pc := 13) hX 3 rfl rfl dX6_countContaining_13 ?_
      refine q_iconst (pc := 14) hX (0) rfl dX6_countContaining_14 ?_
      obtain ⟨r4, hr4, hE⟩ := ob_bind hE
      refine q_callV (pc := 15) (id := t0) (As := [.int y2, .int 0]) (rest := []) (rv := some (.int r4)) (st' := [.int r4]) hX (c_X4_get ht0 hr4) (vl_X6_102) (tb_lt ht0) (ob_T ht0.1 _ _) rfl rfl pd_yX4_get rfl ⟨by decide, by decide⟩ ⟨by decide, by decide⟩ rfl (Nat.le_of_ble_eq_true rfl) rfl dX6_countContaining_15 ?_
      refine q_iload_n (pc := 18) hX 1 rfl rfl dX6_countContaining_18 ?_
      obtain ⟨p8, hp8, hE⟩ := ob_bind hE
      suffices Jp8 : WM X o hn M G 0 0 35 4 [(0, .ref (o t0)), (1, .int x1), (2, .int p8), (3, .int y2)] [] by
        refine q_icmp_gt (pc := 19) hX 35 (by decide) dX6_countContaining_19 (fun c => ?_) (fun c => ?_)
        · rw [if_pos c] at hp8
          cases hp8
          exact Jp8
        · rw [if_neg c] at hp8
          refine q_iload_n (pc := 22) hX 1 rfl rfl dX6_countContaining_22 ?_
          refine q_aload_n (pc := 23) hX 0 rfl rfl dX6_countContaining_23 ?_
          refine q_iload_n (pc := 24) hX 3 rfl rfl dX6_countContaining_24 ?_
          refine q_iconst (pc := 25) hX (1) rfl dX6_countContaining_25 ?_
          obtain ⟨r6, hr6, hp8⟩ := ob_bind hp8
          refine q_callV (pc := 26) (id := t0) (As := [.int y2, .int 1]) (rest := [.int x1]) (rv := some (.int r6)) (st' := [.int r6, .int x1]) hX (c_X4_get ht0 hr6) (vl_X6_102) (tb_lt ht0) (ob_T ht0.1 _ _) rfl rfl pd_yX4_get rfl ⟨by decide, by decide⟩ ⟨by decide, by decide⟩ rfl (Nat.le_of_ble_eq_true rfl) rfl dX6_countContaining_26 ?_
          refine q_icmp_ge (pc := 29) hX 35 (by decide) dX6_countContaining_29 (fun c => ?_) (fun c => ?_)
          · rw [if_pos c] at hp8
            cases hp8
            exact Jp8
          · rw [if_neg c] at hp8
            obtain ⟨z7, hz7⟩ : ∃ z : Int32, z = y1 + 1 := ⟨_, rfl⟩
            have hp8 := bnd_nm hz7 hp8
            refine q_iinc (pc := 32) (lo' := [(0, .ref (o t0)), (1, .int x1), (2, .int z7), (3, .int y2)]) hX 2 z7 [1, 2, 0, 3] rfl (by rw [hz7]; rfl) (by decide) rfl dX6_countContaining_32 ?_
            cases hp8
            exact Jp8
      obtain ⟨z9, hz9⟩ : ∃ z : Int32, z = y2 + 1 := ⟨_, rfl⟩
      have hE := bnd_nm hz9 hE
      refine q_iinc (pc := 35) (lo' := [(0, .ref (o t0)), (1, .int x1), (2, .int p8), (3, .int z9)]) hX 3 z9 [1, 2, 3, 0] rfl (by rw [hz9]; rfl) (by decide) rfl dX6_countContaining_35 ?_
      refine q_goto (pc := 38) hX 4 (by decide) dX6_countContaining_38 ?_
      exact ih _ _ p10 hE hx

set_option maxHeartbeats 4000000 in
theorem c_X6_countContaining {Y : Lx} {o : Nat → Nat} {hn : Nat} {M : Mem} {G : Mel} {t0 : Nat} {x1 : Int32} {rr : Int32} (ht0 : tb hn t0) (hE : s_X6_countContaining M t0 x1 = some (rr)) : MI Y yX6_countContaining cX6_countContaining 4 (some .int) 1 23 0 0 [.ref (o t0), .int x1] o hn M G (.inl (some (.int rr))) M G := by
  refine MI.of (by decide +kernel) (Nat.le_of_ble_eq_true rfl) (fun X hY hX hE0 hR => ?_)
  change CxOK X RX6 cX6_countContaining 4 1 23 0 0 (some .int) at hX
  show WM X o hn M G 0 0 0 4 [(0, .ref (o t0)), (1, .int x1)] []
  unfold s_X6_countContaining at hE
  refine q_iconst (pc := 0) hX (0) rfl dX6_countContaining_0 ?_
  refine q_istore_n (pc := 1) (lo' := [(0, .ref (o t0)), (1, .int x1), (2, .int 0)]) hX [1, 2, 0] rfl (by decide) rfl dX6_countContaining_1 ?_
  refine q_iconst (pc := 2) hX (0) rfl dX6_countContaining_2 ?_
  refine q_istore_n (pc := 3) (lo' := [(0, .ref (o t0)), (1, .int x1), (2, .int 0), (3, .int 0)]) hX [1, 2, 3, 0] rfl (by decide) rfl dX6_countContaining_3 ?_
  obtain ⟨p10, hp10, hE⟩ := ob_bind hE
  refine l_X6_countContaining_4 hX hE0 ht0 FU _ _ p10 hp10 ?_
  refine q_iload_n (pc := 41) hX 2 rfl rfl dX6_countContaining_41 ?_
  cases hE
  exact q_iret hX hR (by decide) (by decide) dX6_countContaining_42

set_option maxHeartbeats 4000000 in
theorem c_X6_coverage {Y : Lx} {o : Nat → Nat} {hn : Nat} {M : Mem} {G : Mel} {x1 : Int32} {x2 : Int32} {kr : Nat} {rr : Int32} {Mr : Mem} (hE : s_X6_coverage M hn x1 x2 = some (kr, rr, Mr)) : MI Y yX6_coverage cX6_coverage 4 (some .int) 7 112 2 12 [.ref (o 28), .int x1, .int x2] o hn M G (rsOf kr (some (.int rr))) Mr G := by
  refine MI.of (by decide +kernel) (Nat.le_of_ble_eq_true rfl) (fun X hY hX hE0 hR => ?_)
  change CxOK X RX6 cX6_coverage 4 7 112 2 12 (some .int) at hX
  show WM X o hn M G 0 0 0 4 [(0, .ref (o 28)), (1, .int x1), (2, .int x2)] []
  unfold s_X6_coverage at hE
  refine q_aload_n (pc := 0) hX 0 rfl rfl dX6_coverage_0 ?_
  refine q_iload_n (pc := 1) hX 1 rfl rfl dX6_coverage_1 ?_
  obtain ⟨r1, hr1, hE⟩ := ob_bind hE
  by_cases hkr1 : r1.1 = 0
  rotate_left
  · rw [if_pos hkr1] at hE
    refine q_callVx (pc := 2) (id := 28) (As := [.int x1]) (rest := []) hX (MI_x hkr1 (c_X6_find hr1)) (vl_X6_60) (lt46 (by decide)) rfl rfl rfl pd_yX6_find rfl ⟨by decide, by decide⟩ ⟨by decide, by decide⟩ rfl (Nat.le_of_ble_eq_true rfl) dX6_coverage_2 ?_
    cases hE
    exact q_out hX hE0 (CxR_x hkr1 hR) (by decide) (by decide)
  rw [if_neg (fun h => h hkr1)] at hE
  refine q_callV (pc := 2) (id := 28) (As := [.int x1]) (rest := []) (rv := some (.ref (o r1.2))) (st' := [.ref (o r1.2)]) hX (MI_0 hkr1 (c_X6_find hr1)) (vl_X6_60) (lt46 (by decide)) rfl rfl rfl pd_yX6_find rfl ⟨by decide, by decide⟩ ⟨by decide, by decide⟩ rfl (Nat.le_of_ble_eq_true rfl) rfl dX6_coverage_2 ?_
  have hemr1 := find_em hr1 hkr1
  refine q_astore_n (pc := 5) (lo' := [(0, .ref (o 28)), (1, .int x1), (2, .int x2), (3, .ref (o r1.2))]) hX [1, 2, 3, 0] rfl (by decide) rfl dX6_coverage_5 ?_
  refine q_iload_n (pc := 6) hX 2 rfl rfl dX6_coverage_6 ?_
  refine q_iconst (pc := 7) hX (0) rfl dX6_coverage_7 ?_
  refine q_sipush (pc := 8) hX (10079) (by decide) dX6_coverage_8 ?_
  obtain ⟨r2, hr2, hE⟩ := ob_bind hE
  by_cases hkr2 : r2 = 0
  rotate_left
  · rw [if_pos hkr2] at hE
    refine q_callSx (pc := 11) (As := [.int x2, .int 0, .int 10079]) (rest := []) hX (MI_x hkr2 (c_X6_requireWithin hr2)) (sl_X6_46) pd_yX6_requireWithin rfl ⟨by decide, by decide⟩ ⟨by decide, by decide⟩ rfl (Nat.le_of_ble_eq_true rfl) dX6_coverage_11 ?_
    cases hE
    exact q_out hX hE0 (CxR_x hkr2 hR) (by decide) (by decide)
  rw [if_neg (fun h => h hkr2)] at hE
  refine q_callS (pc := 11) (As := [.int x2, .int 0, .int 10079]) (rest := []) (rv := none) (st' := []) hX (MI_0 hkr2 (c_X6_requireWithin hr2)) (sl_X6_46) pd_yX6_requireWithin rfl ⟨by decide, by decide⟩ ⟨by decide, by decide⟩ rfl (Nat.le_of_ble_eq_true rfl) rfl dX6_coverage_11 ?_
  refine q_aload_n (pc := 14) hX 0 rfl rfl dX6_coverage_14 ?_
  refine q_get (pc := 15) (id := 28) (ci := 6) (N := 6) (T := TX6) (C := RX6) hX 5 (lt46 (by decide)) rfl rfl in_X6 (by decide) (Or.inl kw_25) rfl dX6_coverage_15 ?_
  refine q_aload_n (pc := 18) hX 3 rfl rfl dX6_coverage_18 ?_
  refine q_get (pc := 19) (id := r1.2) (ci := 0) (N := 6) (T := TX0) (C := RX0) hX 3 (em_lt hemr1) (ob_E hemr1 _ _) rfl in_X0 (by decide) (Or.inr ⟨_, fn_X6_67⟩) rfl dX6_coverage_19 ?_
  obtain ⟨r3, hr3, hE⟩ := ob_bind hE
  refine q_callV (pc := 22) (id := 43) (As := [.ref (o (r1.2 + 1))]) (rest := []) (rv := none) (st' := []) hX (c_X3_read (tb_e1 hemr1) hr3) (vl_X6_156) (lt46 (by decide)) rfl rfl rfl pd_yX3_read rfl ⟨by decide, by decide⟩ ⟨by decide, by decide⟩ rfl (Nat.le_of_ble_eq_true rfl) rfl dX6_coverage_22 ?_
  refine q_aload_n (pc := 25) hX 0 rfl rfl dX6_coverage_25 ?_
  refine q_get (pc := 26) (id := 28) (ci := 6) (N := 6) (T := TX6) (C := RX6) hX 5 (lt46 (by decide)) rfl rfl in_X6 (by decide) (Or.inl kw_25) rfl dX6_coverage_26 ?_
  refine q_get (pc := 29) (id := 43) (ci := 3) (N := 2) (T := TX3) (C := RX3) hX 0 (lt46 (by decide)) rfl rfl in_X3 (by decide) (Or.inr ⟨_, fn_X6_161⟩) rfl dX6_coverage_29 ?_
  refine q_iload_n (pc := 32) hX 2 rfl rfl dX6_coverage_32 ?_
  obtain ⟨r4, hr4, hE⟩ := ob_bind hE
  refine q_callS (pc := 33) (As := [.ref (o 44), .int x2]) (rest := []) (rv := some (.int r4)) (st' := [.int r4]) hX (c_X6_countContaining (tb_44 hn) hr4) (sl_X6_170) pd_yX6_countContaining rfl ⟨by decide, by decide⟩ ⟨by decide, by decide⟩ rfl (Nat.le_of_ble_eq_true rfl) rfl dX6_coverage_33 ?_
  refine q_aload_n (pc := 36) hX 3 rfl rfl dX6_coverage_36 ?_
  refine q_get (pc := 37) (id := r1.2) (ci := 0) (N := 6) (T := TX0) (C := RX0) hX 4 (em_lt hemr1) (ob_E hemr1 _ _) rfl in_X0 (by decide) (Or.inr ⟨_, fn_X6_109⟩) rfl dX6_coverage_37 ?_
  refine q_iload_n (pc := 40) hX 2 rfl rfl dX6_coverage_40 ?_
  obtain ⟨r5, hr5, hE⟩ := ob_bind hE
  refine q_callS (pc := 41) (As := [.ref (o (r1.2 + 3)), .int x2]) (rest := [.int r4]) (rv := some (.int r5)) (st' := [.int r5, .int r4]) hX (c_X6_countContaining (tb_e3 hemr1) hr5) (sl_X6_170) pd_yX6_countContaining rfl ⟨by decide, by decide⟩ ⟨by decide, by decide⟩ rfl (Nat.le_of_ble_eq_true rfl) rfl dX6_coverage_41 ?_
  refine q_iadd (pc := 44) hX dX6_coverage_44 ?_
  cases hE
  exact q_iret hX hR (by decide) (by decide) dX6_coverage_45

set_option maxHeartbeats 4000000 in
theorem c_X6_overlap {Y : Lx} {o : Nat → Nat} {hn : Nat} {M : Mem} {G : Mel} {x1 : Int32} {kr : Nat} {rr : Int32} {Mr : Mem} (hE : s_X6_overlap M hn x1 = some (kr, rr, Mr)) : MI Y yX6_overlap cX6_overlap 2 (some .int) 7 116 1 6 [.ref (o 28), .int x1] o hn M G (rsOf kr (some (.int rr))) Mr G := by
  refine MI.of (by decide +kernel) (Nat.le_of_ble_eq_true rfl) (fun X hY hX hE0 hR => ?_)
  change CxOK X RX6 cX6_overlap 2 7 116 1 6 (some .int) at hX
  show WM X o hn M G 0 0 0 2 [(0, .ref (o 28)), (1, .int x1)] []
  unfold s_X6_overlap at hE
  refine q_aload_n (pc := 0) hX 0 rfl rfl dX6_overlap_0 ?_
  refine q_get (pc := 1) (id := 28) (ci := 6) (N := 6) (T := TX6) (C := RX6) hX 4 (lt46 (by decide)) rfl rfl in_X6 (by decide) (Or.inl kw_24) rfl dX6_overlap_1 ?_
  refine q_aload_n (pc := 4) hX 0 rfl rfl dX6_overlap_4 ?_
  refine q_iload_n (pc := 5) hX 1 rfl rfl dX6_overlap_5 ?_
  obtain ⟨r1, hr1, hE⟩ := ob_bind hE
  by_cases hkr1 : r1.1 = 0
  rotate_left
  · rw [if_pos hkr1] at hE
    refine q_callVx (pc := 6) (id := 28) (As := [.int x1]) (rest := [.ref (o 38)]) hX (MI_x hkr1 (c_X6_find hr1)) (vl_X6_60) (lt46 (by decide)) rfl rfl rfl pd_yX6_find rfl ⟨by decide, by decide⟩ ⟨by decide, by decide⟩ rfl (Nat.le_of_ble_eq_true rfl) dX6_overlap_6 ?_
    cases hE
    exact q_out hX hE0 (CxR_x hkr1 hR) (by decide) (by decide)
  rw [if_neg (fun h => h hkr1)] at hE
  refine q_callV (pc := 6) (id := 28) (As := [.int x1]) (rest := [.ref (o 38)]) (rv := some (.ref (o r1.2))) (st' := [.ref (o r1.2), .ref (o 38)]) hX (MI_0 hkr1 (c_X6_find hr1)) (vl_X6_60) (lt46 (by decide)) rfl rfl rfl pd_yX6_find rfl ⟨by decide, by decide⟩ ⟨by decide, by decide⟩ rfl (Nat.le_of_ble_eq_true rfl) rfl dX6_overlap_6 ?_
  have hemr1 := find_em hr1 hkr1
  obtain ⟨r2, hr2, hE⟩ := ob_bind hE
  refine q_callV (pc := 9) (id := 38) (As := [.ref (o r1.2)]) (rest := []) (rv := none) (st' := []) hX (c_X5_read hemr1 hr2) (vl_X6_173) (lt46 (by decide)) rfl rfl rfl pd_yX5_read rfl ⟨by decide, by decide⟩ ⟨by decide, by decide⟩ rfl (Nat.le_of_ble_eq_true rfl) rfl dX6_overlap_9 ?_
  refine q_aload_n (pc := 12) hX 0 rfl rfl dX6_overlap_12 ?_
  refine q_get (pc := 13) (id := 28) (ci := 6) (N := 6) (T := TX6) (C := RX6) hX 4 (lt46 (by decide)) rfl rfl in_X6 (by decide) (Or.inl kw_24) rfl dX6_overlap_13 ?_
  refine q_get (pc := 16) (id := 38) (ci := 5) (N := 4) (T := TX5) (C := RX5) hX 3 (lt46 (by decide)) rfl rfl in_X5 (by decide) (Or.inr ⟨_, fn_X6_174⟩) rfl dX6_overlap_16 ?_
  cases hE
  exact q_iret hX hR (by decide) (by decide) dX6_overlap_19

set_option maxHeartbeats 4000000 in
theorem c_X6_workedOn {Y : Lx} {o : Nat → Nat} {hn : Nat} {M : Mem} {G : Mel} {x1 : Int32} {x2 : Int32} {kr : Nat} {rr : Int32} {Mr : Mem} (hE : s_X6_workedOn M hn x1 x2 = some (kr, rr, Mr)) : MI Y yX6_workedOn cX6_workedOn 4 (some .int) 7 116 2 12 [.ref (o 28), .int x1, .int x2] o hn M G (rsOf kr (some (.int rr))) Mr G := by
  refine MI.of (by decide +kernel) (Nat.le_of_ble_eq_true rfl) (fun X hY hX hE0 hR => ?_)
  change CxOK X RX6 cX6_workedOn 4 7 116 2 12 (some .int) at hX
  show WM X o hn M G 0 0 0 4 [(0, .ref (o 28)), (1, .int x1), (2, .int x2)] []
  unfold s_X6_workedOn at hE
  refine q_aload_n (pc := 0) hX 0 rfl rfl dX6_workedOn_0 ?_
  refine q_iload_n (pc := 1) hX 1 rfl rfl dX6_workedOn_1 ?_
  obtain ⟨r1, hr1, hE⟩ := ob_bind hE
  by_cases hkr1 : r1.1 = 0
  rotate_left
  · rw [if_pos hkr1] at hE
    refine q_callVx (pc := 2) (id := 28) (As := [.int x1]) (rest := []) hX (MI_x hkr1 (c_X6_find hr1)) (vl_X6_60) (lt46 (by decide)) rfl rfl rfl pd_yX6_find rfl ⟨by decide, by decide⟩ ⟨by decide, by decide⟩ rfl (Nat.le_of_ble_eq_true rfl) dX6_workedOn_2 ?_
    cases hE
    exact q_out hX hE0 (CxR_x hkr1 hR) (by decide) (by decide)
  rw [if_neg (fun h => h hkr1)] at hE
  refine q_callV (pc := 2) (id := 28) (As := [.int x1]) (rest := []) (rv := some (.ref (o r1.2))) (st' := [.ref (o r1.2)]) hX (MI_0 hkr1 (c_X6_find hr1)) (vl_X6_60) (lt46 (by decide)) rfl rfl rfl pd_yX6_find rfl ⟨by decide, by decide⟩ ⟨by decide, by decide⟩ rfl (Nat.le_of_ble_eq_true rfl) rfl dX6_workedOn_2 ?_
  have hemr1 := find_em hr1 hkr1
  refine q_astore_n (pc := 5) (lo' := [(0, .ref (o 28)), (1, .int x1), (2, .int x2), (3, .ref (o r1.2))]) hX [1, 2, 3, 0] rfl (by decide) rfl dX6_workedOn_5 ?_
  refine q_iload_n (pc := 6) hX 2 rfl rfl dX6_workedOn_6 ?_
  refine q_iconst (pc := 7) hX (0) rfl dX6_workedOn_7 ?_
  refine q_bipush (pc := 8) hX (6) (by decide) dX6_workedOn_8 ?_
  obtain ⟨r2, hr2, hE⟩ := ob_bind hE
  by_cases hkr2 : r2 = 0
  rotate_left
  · rw [if_pos hkr2] at hE
    refine q_callSx (pc := 10) (As := [.int x2, .int 0, .int 6]) (rest := []) hX (MI_x hkr2 (c_X6_requireWithin hr2)) (sl_X6_46) pd_yX6_requireWithin rfl ⟨by decide, by decide⟩ ⟨by decide, by decide⟩ rfl (Nat.le_of_ble_eq_true rfl) dX6_workedOn_10 ?_
    cases hE
    exact q_out hX hE0 (CxR_x hkr2 hR) (by decide) (by decide)
  rw [if_neg (fun h => h hkr2)] at hE
  refine q_callS (pc := 10) (As := [.int x2, .int 0, .int 6]) (rest := []) (rv := none) (st' := []) hX (MI_0 hkr2 (c_X6_requireWithin hr2)) (sl_X6_46) pd_yX6_requireWithin rfl ⟨by decide, by decide⟩ ⟨by decide, by decide⟩ rfl (Nat.le_of_ble_eq_true rfl) rfl dX6_workedOn_10 ?_
  refine q_aload_n (pc := 13) hX 0 rfl rfl dX6_workedOn_13 ?_
  refine q_get (pc := 14) (id := 28) (ci := 6) (N := 6) (T := TX6) (C := RX6) hX 4 (lt46 (by decide)) rfl rfl in_X6 (by decide) (Or.inl kw_24) rfl dX6_workedOn_14 ?_
  refine q_aload_n (pc := 17) hX 3 rfl rfl dX6_workedOn_17 ?_
  obtain ⟨r3, hr3, hE⟩ := ob_bind hE
  refine q_callV (pc := 18) (id := 38) (As := [.ref (o r1.2)]) (rest := []) (rv := none) (st' := []) hX (c_X5_read hemr1 hr3) (vl_X6_173) (lt46 (by decide)) rfl rfl rfl pd_yX5_read rfl ⟨by decide, by decide⟩ ⟨by decide, by decide⟩ rfl (Nat.le_of_ble_eq_true rfl) rfl dX6_workedOn_18 ?_
  refine q_aload_n (pc := 21) hX 0 rfl rfl dX6_workedOn_21 ?_
  refine q_get (pc := 22) (id := 28) (ci := 6) (N := 6) (T := TX6) (C := RX6) hX 4 (lt46 (by decide)) rfl rfl in_X6 (by decide) (Or.inl kw_24) rfl dX6_workedOn_22 ?_
  refine q_get (pc := 25) (id := 38) (ci := 5) (N := 4) (T := TX5) (C := RX5) hX 2 (lt46 (by decide)) rfl rfl in_X5 (by decide) (Or.inr ⟨_, fn_X6_177⟩) rfl dX6_workedOn_25 ?_
  refine q_iload_n (pc := 28) hX 2 rfl rfl dX6_workedOn_28 ?_
  obtain ⟨r4, hr4, hE⟩ := ob_bind hE
  refine q_callS (pc := 29) (As := [.ref (o 41), .int x2]) (rest := []) (rv := some (.int r4)) (st' := [.int r4]) hX (c_X6_minutesOnDay (tb_41 hn) hr4) (sl_X6_180) pd_yX6_minutesOnDay rfl ⟨by decide, by decide⟩ ⟨by decide, by decide⟩ rfl (Nat.le_of_ble_eq_true rfl) rfl dX6_workedOn_29 ?_
  cases hE
  exact q_iret hX hR (by decide) (by decide) dX6_workedOn_32

set_option maxHeartbeats 4000000 in
theorem c_X6_stretches {Y : Lx} {o : Nat → Nat} {hn : Nat} {M : Mem} {G : Mel} {x1 : Int32} {kr : Nat} {rr : Int32} {Mr : Mem} (hE : s_X6_stretches M hn x1 = some (kr, rr, Mr)) : MI Y yX6_stretches cX6_stretches 2 (some .int) 7 116 1 6 [.ref (o 28), .int x1] o hn M G (rsOf kr (some (.int rr))) Mr G := by
  refine MI.of (by decide +kernel) (Nat.le_of_ble_eq_true rfl) (fun X hY hX hE0 hR => ?_)
  change CxOK X RX6 cX6_stretches 2 7 116 1 6 (some .int) at hX
  show WM X o hn M G 0 0 0 2 [(0, .ref (o 28)), (1, .int x1)] []
  unfold s_X6_stretches at hE
  refine q_aload_n (pc := 0) hX 0 rfl rfl dX6_stretches_0 ?_
  refine q_get (pc := 1) (id := 28) (ci := 6) (N := 6) (T := TX6) (C := RX6) hX 4 (lt46 (by decide)) rfl rfl in_X6 (by decide) (Or.inl kw_24) rfl dX6_stretches_1 ?_
  refine q_aload_n (pc := 4) hX 0 rfl rfl dX6_stretches_4 ?_
  refine q_iload_n (pc := 5) hX 1 rfl rfl dX6_stretches_5 ?_
  obtain ⟨r1, hr1, hE⟩ := ob_bind hE
  by_cases hkr1 : r1.1 = 0
  rotate_left
  · rw [if_pos hkr1] at hE
    refine q_callVx (pc := 6) (id := 28) (As := [.int x1]) (rest := [.ref (o 38)]) hX (MI_x hkr1 (c_X6_find hr1)) (vl_X6_60) (lt46 (by decide)) rfl rfl rfl pd_yX6_find rfl ⟨by decide, by decide⟩ ⟨by decide, by decide⟩ rfl (Nat.le_of_ble_eq_true rfl) dX6_stretches_6 ?_
    cases hE
    exact q_out hX hE0 (CxR_x hkr1 hR) (by decide) (by decide)
  rw [if_neg (fun h => h hkr1)] at hE
  refine q_callV (pc := 6) (id := 28) (As := [.int x1]) (rest := [.ref (o 38)]) (rv := some (.ref (o r1.2))) (st' := [.ref (o r1.2), .ref (o 38)]) hX (MI_0 hkr1 (c_X6_find hr1)) (vl_X6_60) (lt46 (by decide)) rfl rfl rfl pd_yX6_find rfl ⟨by decide, by decide⟩ ⟨by decide, by decide⟩ rfl (Nat.le_of_ble_eq_true rfl) rfl dX6_stretches_6 ?_
  have hemr1 := find_em hr1 hkr1
  obtain ⟨r2, hr2, hE⟩ := ob_bind hE
  refine q_callV (pc := 9) (id := 38) (As := [.ref (o r1.2)]) (rest := []) (rv := none) (st' := []) hX (c_X5_read hemr1 hr2) (vl_X6_173) (lt46 (by decide)) rfl rfl rfl pd_yX5_read rfl ⟨by decide, by decide⟩ ⟨by decide, by decide⟩ rfl (Nat.le_of_ble_eq_true rfl) rfl dX6_stretches_9 ?_
  refine q_aload_n (pc := 12) hX 0 rfl rfl dX6_stretches_12 ?_
  refine q_get (pc := 13) (id := 28) (ci := 6) (N := 6) (T := TX6) (C := RX6) hX 4 (lt46 (by decide)) rfl rfl in_X6 (by decide) (Or.inl kw_24) rfl dX6_stretches_13 ?_
  refine q_get (pc := 16) (id := 38) (ci := 5) (N := 4) (T := TX5) (C := RX5) hX 2 (lt46 (by decide)) rfl rfl in_X5 (by decide) (Or.inr ⟨_, fn_X6_177⟩) rfl dX6_stretches_16 ?_
  obtain ⟨r3, hr3, hE⟩ := ob_bind hE
  refine q_callV (pc := 19) (id := 41) (As := []) (rest := []) (rv := some (.int r3)) (st' := [.int r3]) hX (c_X4_size (tb_41 hn) hr3) (vl_X6_93) (lt46 (by decide)) (ob_T (tb_41 hn).1 _ _) rfl rfl pd_yX4_size rfl ⟨by decide, by decide⟩ ⟨by decide, by decide⟩ rfl (Nat.le_of_ble_eq_true rfl) rfl dX6_stretches_19 ?_
  cases hE
  exact q_iret hX hR (by decide) (by decide) dX6_stretches_22

set_option maxHeartbeats 4000000 in
theorem l_X6_longest_4 {X : Cx} (hX : CxOK X RX6 cX6_longest 3 1 24 0 0 (some .int)) (hE0 : CxE X []) {o : Nat → Nat} {hn : Nat} {M : Mem} {t0 : Nat} {G : Mel} (ht0 : tb hn t0) : ∀ (f : Nat) (y1 : Int32) (y2 : Int32) (p8 : Int32 × Int32), L_X6_longest_4 M t0 f y1 y2 = some p8 → WM X o hn M G 0 0 36 3 [(0, .ref (o t0)), (1, .int p8.1), (2, .int p8.2)] [] → WM X o hn M G 0 0 4 3 [(0, .ref (o t0)), (1, .int y1), (2, .int y2)] [] := by
  intro f
  induction f with
  | zero => intro y1 y2 p8 hE; simp [L_X6_longest_4] at hE
  | succ f ih =>
    intro y1 y2 p8 hE hx
    rw [L_X6_longest_4] at hE
    refine q_iload_n (pc := 4) hX 2 rfl rfl dX6_longest_4 ?_
    refine q_aload_n (pc := 5) hX 0 rfl rfl dX6_longest_5 ?_
    obtain ⟨r3, hr3, hE⟩ := ob_bind hE
    refine q_callV (pc := 6) (id := t0) (As := []) (rest := [.int y2]) (rv := some (.int r3)) (st' := [.int r3, .int y2]) hX (c_X4_size ht0 hr3) (vl_X6_93) (tb_lt ht0) (ob_T ht0.1 _ _) rfl rfl pd_yX4_size rfl ⟨by decide, by decide⟩ ⟨by decide, by decide⟩ rfl (Nat.le_of_ble_eq_true rfl) rfl dX6_longest_6 ?_
    refine q_icmp_ge (pc := 9) hX 36 (by decide) dX6_longest_9 (fun c => ?_) (fun c => ?_)
    · rw [if_pos c] at hE
      cases hE
      exact hx
    · rw [if_neg c] at hE
      refine q_iload_n (pc := 12) hX 1 rfl rfl dX6_longest_12 ?_
      refine q_aload_n (pc := 13) hX 0 rfl rfl dX6_longest_13 ?_
      refine q_iload_n (pc := 14) hX 2 rfl rfl dX6_longest_14 ?_
      refine q_iconst (pc := 15) hX (1) rfl dX6_longest_15 ?_
      obtain ⟨r4, hr4, hE⟩ := ob_bind hE
      refine q_callV (pc := 16) (id := t0) (As := [.int y2, .int 1]) (rest := [.int y1]) (rv := some (.int r4)) (st' := [.int r4, .int y1]) hX (c_X4_get ht0 hr4) (vl_X6_102) (tb_lt ht0) (ob_T ht0.1 _ _) rfl rfl pd_yX4_get rfl ⟨by decide, by decide⟩ ⟨by decide, by decide⟩ rfl (Nat.le_of_ble_eq_true rfl) rfl dX6_longest_16 ?_
      refine q_aload_n (pc := 19) hX 0 rfl rfl dX6_longest_19 ?_
      refine q_iload_n (pc := 20) hX 2 rfl rfl dX6_longest_20 ?_
      refine q_iconst (pc := 21) hX (0) rfl dX6_longest_21 ?_
      obtain ⟨r5, hr5, hE⟩ := ob_bind hE
      refine q_callV (pc := 22) (id := t0) (As := [.int y2, .int 0]) (rest := [.int r4, .int y1]) (rv := some (.int r5)) (st' := [.int r5, .int r4, .int y1]) hX (c_X4_get ht0 hr5) (vl_X6_102) (tb_lt ht0) (ob_T ht0.1 _ _) rfl rfl pd_yX4_get rfl ⟨by decide, by decide⟩ ⟨by decide, by decide⟩ rfl (Nat.le_of_ble_eq_true rfl) rfl dX6_longest_22 ?_
      refine q_isub (pc := 25) hX dX6_longest_25 ?_
      refine r_max (pc := 26) hX kw_414 kw_375 kw_367 kw_376 (by decide) (Nat.le_of_ble_eq_true rfl) (by decide) (by decide) dX6_longest_26 ?_
      refine q_nm (fun z6 hz6 => ?_)
      have hE := bnd_nm hz6 hE
      refine q_istore_n (pc := 29) (lo' := [(0, .ref (o t0)), (1, .int z6), (2, .int y2)]) hX [1, 0, 2] rfl (by decide) rfl dX6_longest_29 ?_
      obtain ⟨z7, hz7⟩ : ∃ z : Int32, z = y2 + 1 := ⟨_, rfl⟩
      have hE := bnd_nm hz7 hE
      refine q_iinc (pc := 30) (lo' := [(0, .ref (o t0)), (1, .int z6), (2, .int z7)]) hX 2 z7 [1, 2, 0] rfl (by rw [hz7]; rfl) (by decide) rfl dX6_longest_30 ?_
      refine q_goto (pc := 33) hX 4 (by decide) dX6_longest_33 ?_
      exact ih _ _ p8 hE hx

set_option maxHeartbeats 4000000 in
theorem c_X6_longest {Y : Lx} {o : Nat → Nat} {hn : Nat} {M : Mem} {G : Mel} {t0 : Nat} {rr : Int32} (ht0 : tb hn t0) (hE : s_X6_longest M t0 = some (rr)) : MI Y yX6_longest cX6_longest 3 (some .int) 1 24 0 0 [.ref (o t0)] o hn M G (.inl (some (.int rr))) M G := by
  refine MI.of (by decide +kernel) (Nat.le_of_ble_eq_true rfl) (fun X hY hX hE0 hR => ?_)
  change CxOK X RX6 cX6_longest 3 1 24 0 0 (some .int) at hX
  show WM X o hn M G 0 0 0 3 [(0, .ref (o t0))] []
  unfold s_X6_longest at hE
  refine q_iconst (pc := 0) hX (0) rfl dX6_longest_0 ?_
  refine q_istore_n (pc := 1) (lo' := [(0, .ref (o t0)), (1, .int 0)]) hX [1, 0] rfl (by decide) rfl dX6_longest_1 ?_
  refine q_iconst (pc := 2) hX (0) rfl dX6_longest_2 ?_
  refine q_istore_n (pc := 3) (lo' := [(0, .ref (o t0)), (1, .int 0), (2, .int 0)]) hX [1, 2, 0] rfl (by decide) rfl dX6_longest_3 ?_
  obtain ⟨p8, hp8, hE⟩ := ob_bind hE
  refine l_X6_longest_4 hX hE0 ht0 FU _ _ p8 hp8 ?_
  refine q_iload_n (pc := 36) hX 1 rfl rfl dX6_longest_36 ?_
  cases hE
  exact q_iret hX hR (by decide) (by decide) dX6_longest_37

set_option maxHeartbeats 4000000 in
theorem c_X6_longestStretch {Y : Lx} {o : Nat → Nat} {hn : Nat} {M : Mem} {G : Mel} {x1 : Int32} {kr : Nat} {rr : Int32} {Mr : Mem} (hE : s_X6_longestStretch M hn x1 = some (kr, rr, Mr)) : MI Y yX6_longestStretch cX6_longestStretch 2 (some .int) 7 116 1 6 [.ref (o 28), .int x1] o hn M G (rsOf kr (some (.int rr))) Mr G := by
  refine MI.of (by decide +kernel) (Nat.le_of_ble_eq_true rfl) (fun X hY hX hE0 hR => ?_)
  change CxOK X RX6 cX6_longestStretch 2 7 116 1 6 (some .int) at hX
  show WM X o hn M G 0 0 0 2 [(0, .ref (o 28)), (1, .int x1)] []
  unfold s_X6_longestStretch at hE
  refine q_aload_n (pc := 0) hX 0 rfl rfl dX6_longestStretch_0 ?_
  refine q_get (pc := 1) (id := 28) (ci := 6) (N := 6) (T := TX6) (C := RX6) hX 4 (lt46 (by decide)) rfl rfl in_X6 (by decide) (Or.inl kw_24) rfl dX6_longestStretch_1 ?_
  refine q_aload_n (pc := 4) hX 0 rfl rfl dX6_longestStretch_4 ?_
  refine q_iload_n (pc := 5) hX 1 rfl rfl dX6_longestStretch_5 ?_
  obtain ⟨r1, hr1, hE⟩ := ob_bind hE
  by_cases hkr1 : r1.1 = 0
  rotate_left
  · rw [if_pos hkr1] at hE
    refine q_callVx (pc := 6) (id := 28) (As := [.int x1]) (rest := [.ref (o 38)]) hX (MI_x hkr1 (c_X6_find hr1)) (vl_X6_60) (lt46 (by decide)) rfl rfl rfl pd_yX6_find rfl ⟨by decide, by decide⟩ ⟨by decide, by decide⟩ rfl (Nat.le_of_ble_eq_true rfl) dX6_longestStretch_6 ?_
    cases hE
    exact q_out hX hE0 (CxR_x hkr1 hR) (by decide) (by decide)
  rw [if_neg (fun h => h hkr1)] at hE
  refine q_callV (pc := 6) (id := 28) (As := [.int x1]) (rest := [.ref (o 38)]) (rv := some (.ref (o r1.2))) (st' := [.ref (o r1.2), .ref (o 38)]) hX (MI_0 hkr1 (c_X6_find hr1)) (vl_X6_60) (lt46 (by decide)) rfl rfl rfl pd_yX6_find rfl ⟨by decide, by decide⟩ ⟨by decide, by decide⟩ rfl (Nat.le_of_ble_eq_true rfl) rfl dX6_longestStretch_6 ?_
  have hemr1 := find_em hr1 hkr1
  obtain ⟨r2, hr2, hE⟩ := ob_bind hE
  refine q_callV (pc := 9) (id := 38) (As := [.ref (o r1.2)]) (rest := []) (rv := none) (st' := []) hX (c_X5_read hemr1 hr2) (vl_X6_173) (lt46 (by decide)) rfl rfl rfl pd_yX5_read rfl ⟨by decide, by decide⟩ ⟨by decide, by decide⟩ rfl (Nat.le_of_ble_eq_true rfl) rfl dX6_longestStretch_9 ?_
  refine q_aload_n (pc := 12) hX 0 rfl rfl dX6_longestStretch_12 ?_
  refine q_get (pc := 13) (id := 28) (ci := 6) (N := 6) (T := TX6) (C := RX6) hX 4 (lt46 (by decide)) rfl rfl in_X6 (by decide) (Or.inl kw_24) rfl dX6_longestStretch_13 ?_
  refine q_get (pc := 16) (id := 38) (ci := 5) (N := 4) (T := TX5) (C := RX5) hX 2 (lt46 (by decide)) rfl rfl in_X5 (by decide) (Or.inr ⟨_, fn_X6_177⟩) rfl dX6_longestStretch_16 ?_
  obtain ⟨r3, hr3, hE⟩ := ob_bind hE
  refine q_callS (pc := 19) (As := [.ref (o 41)]) (rest := []) (rv := some (.int r3)) (st' := [.int r3]) hX (c_X6_longest (tb_41 hn) hr3) (sl_X6_183) pd_yX6_longest rfl ⟨by decide, by decide⟩ ⟨by decide, by decide⟩ rfl (Nat.le_of_ble_eq_true rfl) rfl dX6_longestStretch_19 ?_
  cases hE
  exact q_iret hX hR (by decide) (by decide) dX6_longestStretch_22

set_option maxHeartbeats 4000000 in
theorem c_X6_category {Y : Lx} {o : Nat → Nat} {hn : Nat} {M : Mem} {G : Mel} {x1 : Int32} {x2 : Int32} {kr : Nat} {rr : Int32} {Mr : Mem} (hE : s_X6_category M hn x1 x2 = some (kr, rr, Mr)) : MI Y yX6_category cX6_category 4 (some .int) 7 140 2 12 [.ref (o 28), .int x1, .int x2] o hn M G (rsOf kr (some (.int rr))) Mr G := by
  refine MI.of (by decide +kernel) (Nat.le_of_ble_eq_true rfl) (fun X hY hX hE0 hR => ?_)
  change CxOK X RX6 cX6_category 4 7 140 2 12 (some .int) at hX
  show WM X o hn M G 0 0 0 4 [(0, .ref (o 28)), (1, .int x1), (2, .int x2)] []
  unfold s_X6_category at hE
  refine q_aload_n (pc := 0) hX 0 rfl rfl dX6_category_0 ?_
  refine q_iload_n (pc := 1) hX 1 rfl rfl dX6_category_1 ?_
  obtain ⟨r1, hr1, hE⟩ := ob_bind hE
  by_cases hkr1 : r1.1 = 0
  rotate_left
  · rw [if_pos hkr1] at hE
    refine q_callVx (pc := 2) (id := 28) (As := [.int x1]) (rest := []) hX (MI_x hkr1 (c_X6_find hr1)) (vl_X6_60) (lt46 (by decide)) rfl rfl rfl pd_yX6_find rfl ⟨by decide, by decide⟩ ⟨by decide, by decide⟩ rfl (Nat.le_of_ble_eq_true rfl) dX6_category_2 ?_
    cases hE
    exact q_out hX hE0 (CxR_x hkr1 hR) (by decide) (by decide)
  rw [if_neg (fun h => h hkr1)] at hE
  refine q_callV (pc := 2) (id := 28) (As := [.int x1]) (rest := []) (rv := some (.ref (o r1.2))) (st' := [.ref (o r1.2)]) hX (MI_0 hkr1 (c_X6_find hr1)) (vl_X6_60) (lt46 (by decide)) rfl rfl rfl pd_yX6_find rfl ⟨by decide, by decide⟩ ⟨by decide, by decide⟩ rfl (Nat.le_of_ble_eq_true rfl) rfl dX6_category_2 ?_
  have hemr1 := find_em hr1 hkr1
  refine q_astore_n (pc := 5) (lo' := [(0, .ref (o 28)), (1, .int x1), (2, .int x2), (3, .ref (o r1.2))]) hX [1, 2, 3, 0] rfl (by decide) rfl dX6_category_5 ?_
  refine q_iload_n (pc := 6) hX 2 rfl rfl dX6_category_6 ?_
  refine q_iconst (pc := 7) hX (0) rfl dX6_category_7 ?_
  refine q_sipush (pc := 8) hX (10079) (by decide) dX6_category_8 ?_
  obtain ⟨r2, hr2, hE⟩ := ob_bind hE
  by_cases hkr2 : r2 = 0
  rotate_left
  · rw [if_pos hkr2] at hE
    refine q_callSx (pc := 11) (As := [.int x2, .int 0, .int 10079]) (rest := []) hX (MI_x hkr2 (c_X6_requireWithin hr2)) (sl_X6_46) pd_yX6_requireWithin rfl ⟨by decide, by decide⟩ ⟨by decide, by decide⟩ rfl (Nat.le_of_ble_eq_true rfl) dX6_category_11 ?_
    cases hE
    exact q_out hX hE0 (CxR_x hkr2 hR) (by decide) (by decide)
  rw [if_neg (fun h => h hkr2)] at hE
  refine q_callS (pc := 11) (As := [.int x2, .int 0, .int 10079]) (rest := []) (rv := none) (st' := []) hX (MI_0 hkr2 (c_X6_requireWithin hr2)) (sl_X6_46) pd_yX6_requireWithin rfl ⟨by decide, by decide⟩ ⟨by decide, by decide⟩ rfl (Nat.le_of_ble_eq_true rfl) rfl dX6_category_11 ?_
  refine q_aload_n (pc := 14) hX 0 rfl rfl dX6_category_14 ?_
  refine q_get (pc := 15) (id := 28) (ci := 6) (N := 6) (T := TX6) (C := RX6) hX 3 (lt46 (by decide)) rfl rfl in_X6 (by decide) (Or.inl kw_23) rfl dX6_category_15 ?_
  refine q_aload_n (pc := 18) hX 3 rfl rfl dX6_category_18 ?_
  obtain ⟨r3, hr3, hE⟩ := ob_bind hE
  refine q_callV (pc := 19) (id := 33) (As := [.ref (o r1.2)]) (rest := []) (rv := none) (st' := []) hX (c_X1_read hemr1 hr3) (vl_X6_131) (lt46 (by decide)) rfl rfl rfl pd_yX1_read rfl ⟨by decide, by decide⟩ ⟨by decide, by decide⟩ rfl (Nat.le_of_ble_eq_true rfl) rfl dX6_category_19 ?_
  refine q_aload_n (pc := 22) hX 0 rfl rfl dX6_category_22 ?_
  refine q_get (pc := 23) (id := 28) (ci := 6) (N := 6) (T := TX6) (C := RX6) hX 3 (lt46 (by decide)) rfl rfl in_X6 (by decide) (Or.inl kw_23) rfl dX6_category_23 ?_
  refine q_iload_n (pc := 26) hX 2 rfl rfl dX6_category_26 ?_
  obtain ⟨r4, hr4, hE⟩ := ob_bind hE
  refine q_callV (pc := 27) (id := 33) (As := [.int x2]) (rest := []) (rv := some (.int r4)) (st' := [.int r4]) hX (c_X1_categoryAt hr4) (vl_X6_186) (lt46 (by decide)) rfl rfl rfl pd_yX1_categoryAt rfl ⟨by decide, by decide⟩ ⟨by decide, by decide⟩ rfl (Nat.le_of_ble_eq_true rfl) rfl dX6_category_27 ?_
  cases hE
  exact q_iret hX hR (by decide) (by decide) dX6_category_30

set_option maxHeartbeats 4000000 in
theorem c_X6_minutes {Y : Lx} {o : Nat → Nat} {hn : Nat} {M : Mem} {G : Mel} {x1 : Int32} {x2 : Int32} {x3 : Int32} {kr : Nat} {rr : Int32} {Mr : Mem} (hE : s_X6_minutes M hn x1 x2 x3 = some (kr, rr, Mr)) : MI Y yX6_minutes cX6_minutes 5 (some .int) 7 140 3 18 [.ref (o 28), .int x1, .int x2, .int x3] o hn M G (rsOf kr (some (.int rr))) Mr G := by
  refine MI.of (by decide +kernel) (Nat.le_of_ble_eq_true rfl) (fun X hY hX hE0 hR => ?_)
  change CxOK X RX6 cX6_minutes 5 7 140 3 18 (some .int) at hX
  show WM X o hn M G 0 0 0 5 [(0, .ref (o 28)), (1, .int x1), (2, .int x2), (3, .int x3)] []
  unfold s_X6_minutes at hE
  refine q_aload_n (pc := 0) hX 0 rfl rfl dX6_minutes_0 ?_
  refine q_iload_n (pc := 1) hX 1 rfl rfl dX6_minutes_1 ?_
  obtain ⟨r1, hr1, hE⟩ := ob_bind hE
  by_cases hkr1 : r1.1 = 0
  rotate_left
  · rw [if_pos hkr1] at hE
    refine q_callVx (pc := 2) (id := 28) (As := [.int x1]) (rest := []) hX (MI_x hkr1 (c_X6_find hr1)) (vl_X6_60) (lt46 (by decide)) rfl rfl rfl pd_yX6_find rfl ⟨by decide, by decide⟩ ⟨by decide, by decide⟩ rfl (Nat.le_of_ble_eq_true rfl) dX6_minutes_2 ?_
    cases hE
    exact q_out hX hE0 (CxR_x hkr1 hR) (by decide) (by decide)
  rw [if_neg (fun h => h hkr1)] at hE
  refine q_callV (pc := 2) (id := 28) (As := [.int x1]) (rest := []) (rv := some (.ref (o r1.2))) (st' := [.ref (o r1.2)]) hX (MI_0 hkr1 (c_X6_find hr1)) (vl_X6_60) (lt46 (by decide)) rfl rfl rfl pd_yX6_find rfl ⟨by decide, by decide⟩ ⟨by decide, by decide⟩ rfl (Nat.le_of_ble_eq_true rfl) rfl dX6_minutes_2 ?_
  have hemr1 := find_em hr1 hkr1
  refine q_astore (pc := 5) (lo' := [(0, .ref (o 28)), (1, .int x1), (2, .int x2), (3, .int x3), (4, .ref (o r1.2))]) hX [1, 2, 3, 4, 0] (by decide) rfl dX6_minutes_5 ?_
  refine q_iload_n (pc := 7) hX 2 rfl rfl dX6_minutes_7 ?_
  refine q_iconst (pc := 8) hX (0) rfl dX6_minutes_8 ?_
  refine q_bipush (pc := 9) hX (6) (by decide) dX6_minutes_9 ?_
  obtain ⟨r2, hr2, hE⟩ := ob_bind hE
  by_cases hkr2 : r2 = 0
  rotate_left
  · rw [if_pos hkr2] at hE
    refine q_callSx (pc := 11) (As := [.int x2, .int 0, .int 6]) (rest := []) hX (MI_x hkr2 (c_X6_requireWithin hr2)) (sl_X6_46) pd_yX6_requireWithin rfl ⟨by decide, by decide⟩ ⟨by decide, by decide⟩ rfl (Nat.le_of_ble_eq_true rfl) dX6_minutes_11 ?_
    cases hE
    exact q_out hX hE0 (CxR_x hkr2 hR) (by decide) (by decide)
  rw [if_neg (fun h => h hkr2)] at hE
  refine q_callS (pc := 11) (As := [.int x2, .int 0, .int 6]) (rest := []) (rv := none) (st' := []) hX (MI_0 hkr2 (c_X6_requireWithin hr2)) (sl_X6_46) pd_yX6_requireWithin rfl ⟨by decide, by decide⟩ ⟨by decide, by decide⟩ rfl (Nat.le_of_ble_eq_true rfl) rfl dX6_minutes_11 ?_
  refine q_iload_n (pc := 14) hX 3 rfl rfl dX6_minutes_14 ?_
  refine q_iconst (pc := 15) hX (0) rfl dX6_minutes_15 ?_
  refine q_iconst (pc := 16) hX (2) rfl dX6_minutes_16 ?_
  obtain ⟨r3, hr3, hE⟩ := ob_bind hE
  by_cases hkr3 : r3 = 0
  rotate_left
  · rw [if_pos hkr3] at hE
    refine q_callSx (pc := 17) (As := [.int x3, .int 0, .int 2]) (rest := []) hX (MI_x hkr3 (c_X6_requireWithin hr3)) (sl_X6_46) pd_yX6_requireWithin rfl ⟨by decide, by decide⟩ ⟨by decide, by decide⟩ rfl (Nat.le_of_ble_eq_true rfl) dX6_minutes_17 ?_
    cases hE
    exact q_out hX hE0 (CxR_x hkr3 hR) (by decide) (by decide)
  rw [if_neg (fun h => h hkr3)] at hE
  refine q_callS (pc := 17) (As := [.int x3, .int 0, .int 2]) (rest := []) (rv := none) (st' := []) hX (MI_0 hkr3 (c_X6_requireWithin hr3)) (sl_X6_46) pd_yX6_requireWithin rfl ⟨by decide, by decide⟩ ⟨by decide, by decide⟩ rfl (Nat.le_of_ble_eq_true rfl) rfl dX6_minutes_17 ?_
  refine q_aload_n (pc := 20) hX 0 rfl rfl dX6_minutes_20 ?_
  refine q_get (pc := 21) (id := 28) (ci := 6) (N := 6) (T := TX6) (C := RX6) hX 3 (lt46 (by decide)) rfl rfl in_X6 (by decide) (Or.inl kw_23) rfl dX6_minutes_21 ?_
  refine q_aload (pc := 24) hX 4 rfl dX6_minutes_24 ?_
  obtain ⟨r4, hr4, hE⟩ := ob_bind hE
  refine q_callV (pc := 26) (id := 33) (As := [.ref (o r1.2)]) (rest := []) (rv := none) (st' := []) hX (c_X1_read hemr1 hr4) (vl_X6_131) (lt46 (by decide)) rfl rfl rfl pd_yX1_read rfl ⟨by decide, by decide⟩ ⟨by decide, by decide⟩ rfl (Nat.le_of_ble_eq_true rfl) rfl dX6_minutes_26 ?_
  refine q_aload_n (pc := 29) hX 0 rfl rfl dX6_minutes_29 ?_
  refine q_get (pc := 30) (id := 28) (ci := 6) (N := 6) (T := TX6) (C := RX6) hX 3 (lt46 (by decide)) rfl rfl in_X6 (by decide) (Or.inl kw_23) rfl dX6_minutes_30 ?_
  refine q_iload_n (pc := 33) hX 2 rfl rfl dX6_minutes_33 ?_
  refine q_iload_n (pc := 34) hX 3 rfl rfl dX6_minutes_34 ?_
  obtain ⟨r5, hr5, hE⟩ := ob_bind hE
  refine q_callV (pc := 35) (id := 33) (As := [.int x2, .int x3]) (rest := []) (rv := some (.int r5)) (st' := [.int r5]) hX (c_X1_minutesOf hr5) (vl_X6_189) (lt46 (by decide)) rfl rfl rfl pd_yX1_minutesOf rfl ⟨by decide, by decide⟩ ⟨by decide, by decide⟩ rfl (Nat.le_of_ble_eq_true rfl) rfl dX6_minutes_35 ?_
  cases hE
  exact q_iret hX hR (by decide) (by decide) dX6_minutes_38

set_option maxHeartbeats 4000000 in
theorem c_X6_quarters {Y : Lx} {o : Nat → Nat} {hn : Nat} {M : Mem} {G : Mel} {x1 : Int32} {x2 : Int32} {x3 : Int32} {kr : Nat} {rr : Int32} {Mr : Mem} (hE : s_X6_quarters M hn x1 x2 x3 = some (kr, rr, Mr)) : MI Y yX6_quarters cX6_quarters 5 (some .int) 7 140 3 18 [.ref (o 28), .int x1, .int x2, .int x3] o hn M G (rsOf kr (some (.int rr))) Mr G := by
  refine MI.of (by decide +kernel) (Nat.le_of_ble_eq_true rfl) (fun X hY hX hE0 hR => ?_)
  change CxOK X RX6 cX6_quarters 5 7 140 3 18 (some .int) at hX
  show WM X o hn M G 0 0 0 5 [(0, .ref (o 28)), (1, .int x1), (2, .int x2), (3, .int x3)] []
  unfold s_X6_quarters at hE
  refine q_aload_n (pc := 0) hX 0 rfl rfl dX6_quarters_0 ?_
  refine q_iload_n (pc := 1) hX 1 rfl rfl dX6_quarters_1 ?_
  obtain ⟨r1, hr1, hE⟩ := ob_bind hE
  by_cases hkr1 : r1.1 = 0
  rotate_left
  · rw [if_pos hkr1] at hE
    refine q_callVx (pc := 2) (id := 28) (As := [.int x1]) (rest := []) hX (MI_x hkr1 (c_X6_find hr1)) (vl_X6_60) (lt46 (by decide)) rfl rfl rfl pd_yX6_find rfl ⟨by decide, by decide⟩ ⟨by decide, by decide⟩ rfl (Nat.le_of_ble_eq_true rfl) dX6_quarters_2 ?_
    cases hE
    exact q_out hX hE0 (CxR_x hkr1 hR) (by decide) (by decide)
  rw [if_neg (fun h => h hkr1)] at hE
  refine q_callV (pc := 2) (id := 28) (As := [.int x1]) (rest := []) (rv := some (.ref (o r1.2))) (st' := [.ref (o r1.2)]) hX (MI_0 hkr1 (c_X6_find hr1)) (vl_X6_60) (lt46 (by decide)) rfl rfl rfl pd_yX6_find rfl ⟨by decide, by decide⟩ ⟨by decide, by decide⟩ rfl (Nat.le_of_ble_eq_true rfl) rfl dX6_quarters_2 ?_
  have hemr1 := find_em hr1 hkr1
  refine q_astore (pc := 5) (lo' := [(0, .ref (o 28)), (1, .int x1), (2, .int x2), (3, .int x3), (4, .ref (o r1.2))]) hX [1, 2, 3, 4, 0] (by decide) rfl dX6_quarters_5 ?_
  refine q_iload_n (pc := 7) hX 2 rfl rfl dX6_quarters_7 ?_
  refine q_iconst (pc := 8) hX (0) rfl dX6_quarters_8 ?_
  refine q_bipush (pc := 9) hX (6) (by decide) dX6_quarters_9 ?_
  obtain ⟨r2, hr2, hE⟩ := ob_bind hE
  by_cases hkr2 : r2 = 0
  rotate_left
  · rw [if_pos hkr2] at hE
    refine q_callSx (pc := 11) (As := [.int x2, .int 0, .int 6]) (rest := []) hX (MI_x hkr2 (c_X6_requireWithin hr2)) (sl_X6_46) pd_yX6_requireWithin rfl ⟨by decide, by decide⟩ ⟨by decide, by decide⟩ rfl (Nat.le_of_ble_eq_true rfl) dX6_quarters_11 ?_
    cases hE
    exact q_out hX hE0 (CxR_x hkr2 hR) (by decide) (by decide)
  rw [if_neg (fun h => h hkr2)] at hE
  refine q_callS (pc := 11) (As := [.int x2, .int 0, .int 6]) (rest := []) (rv := none) (st' := []) hX (MI_0 hkr2 (c_X6_requireWithin hr2)) (sl_X6_46) pd_yX6_requireWithin rfl ⟨by decide, by decide⟩ ⟨by decide, by decide⟩ rfl (Nat.le_of_ble_eq_true rfl) rfl dX6_quarters_11 ?_
  refine q_iload_n (pc := 14) hX 3 rfl rfl dX6_quarters_14 ?_
  refine q_iconst (pc := 15) hX (0) rfl dX6_quarters_15 ?_
  refine q_iconst (pc := 16) hX (2) rfl dX6_quarters_16 ?_
  obtain ⟨r3, hr3, hE⟩ := ob_bind hE
  by_cases hkr3 : r3 = 0
  rotate_left
  · rw [if_pos hkr3] at hE
    refine q_callSx (pc := 17) (As := [.int x3, .int 0, .int 2]) (rest := []) hX (MI_x hkr3 (c_X6_requireWithin hr3)) (sl_X6_46) pd_yX6_requireWithin rfl ⟨by decide, by decide⟩ ⟨by decide, by decide⟩ rfl (Nat.le_of_ble_eq_true rfl) dX6_quarters_17 ?_
    cases hE
    exact q_out hX hE0 (CxR_x hkr3 hR) (by decide) (by decide)
  rw [if_neg (fun h => h hkr3)] at hE
  refine q_callS (pc := 17) (As := [.int x3, .int 0, .int 2]) (rest := []) (rv := none) (st' := []) hX (MI_0 hkr3 (c_X6_requireWithin hr3)) (sl_X6_46) pd_yX6_requireWithin rfl ⟨by decide, by decide⟩ ⟨by decide, by decide⟩ rfl (Nat.le_of_ble_eq_true rfl) rfl dX6_quarters_17 ?_
  refine q_aload_n (pc := 20) hX 0 rfl rfl dX6_quarters_20 ?_
  refine q_get (pc := 21) (id := 28) (ci := 6) (N := 6) (T := TX6) (C := RX6) hX 3 (lt46 (by decide)) rfl rfl in_X6 (by decide) (Or.inl kw_23) rfl dX6_quarters_21 ?_
  refine q_aload (pc := 24) hX 4 rfl dX6_quarters_24 ?_
  obtain ⟨r4, hr4, hE⟩ := ob_bind hE
  refine q_callV (pc := 26) (id := 33) (As := [.ref (o r1.2)]) (rest := []) (rv := none) (st' := []) hX (c_X1_read hemr1 hr4) (vl_X6_131) (lt46 (by decide)) rfl rfl rfl pd_yX1_read rfl ⟨by decide, by decide⟩ ⟨by decide, by decide⟩ rfl (Nat.le_of_ble_eq_true rfl) rfl dX6_quarters_26 ?_
  refine q_aload_n (pc := 29) hX 0 rfl rfl dX6_quarters_29 ?_
  refine q_get (pc := 30) (id := 28) (ci := 6) (N := 6) (T := TX6) (C := RX6) hX 3 (lt46 (by decide)) rfl rfl in_X6 (by decide) (Or.inl kw_23) rfl dX6_quarters_30 ?_
  refine q_iload_n (pc := 33) hX 2 rfl rfl dX6_quarters_33 ?_
  refine q_iload_n (pc := 34) hX 3 rfl rfl dX6_quarters_34 ?_
  obtain ⟨r5, hr5, hE⟩ := ob_bind hE
  refine q_callV (pc := 35) (id := 33) (As := [.int x2, .int x3]) (rest := []) (rv := some (.int r5)) (st' := [.int r5]) hX (c_X1_quartersOf hr5) (vl_X6_192) (lt46 (by decide)) rfl rfl rfl pd_yX1_quartersOf rfl ⟨by decide, by decide⟩ ⟨by decide, by decide⟩ rfl (Nat.le_of_ble_eq_true rfl) rfl dX6_quarters_35 ?_
  cases hE
  exact q_iret hX hR (by decide) (by decide) dX6_quarters_38

set_option maxHeartbeats 4000000 in
theorem c_X6_premiumPay {Y : Lx} {o : Nat → Nat} {hn : Nat} {M : Mem} {G : Mel} {x1 : Int32} {kr : Nat} {rr : Int32} {Mr : Mem} (hE : s_X6_premiumPay M hn x1 = some (kr, rr, Mr)) : MI Y yX6_premiumPay cX6_premiumPay 2 (some .int) 7 140 1 6 [.ref (o 28), .int x1] o hn M G (rsOf kr (some (.int rr))) Mr G := by
  refine MI.of (by decide +kernel) (Nat.le_of_ble_eq_true rfl) (fun X hY hX hE0 hR => ?_)
  change CxOK X RX6 cX6_premiumPay 2 7 140 1 6 (some .int) at hX
  show WM X o hn M G 0 0 0 2 [(0, .ref (o 28)), (1, .int x1)] []
  unfold s_X6_premiumPay at hE
  refine q_aload_n (pc := 0) hX 0 rfl rfl dX6_premiumPay_0 ?_
  refine q_get (pc := 1) (id := 28) (ci := 6) (N := 6) (T := TX6) (C := RX6) hX 3 (lt46 (by decide)) rfl rfl in_X6 (by decide) (Or.inl kw_23) rfl dX6_premiumPay_1 ?_
  refine q_aload_n (pc := 4) hX 0 rfl rfl dX6_premiumPay_4 ?_
  refine q_iload_n (pc := 5) hX 1 rfl rfl dX6_premiumPay_5 ?_
  obtain ⟨r1, hr1, hE⟩ := ob_bind hE
  by_cases hkr1 : r1.1 = 0
  rotate_left
  · rw [if_pos hkr1] at hE
    refine q_callVx (pc := 6) (id := 28) (As := [.int x1]) (rest := [.ref (o 33)]) hX (MI_x hkr1 (c_X6_find hr1)) (vl_X6_60) (lt46 (by decide)) rfl rfl rfl pd_yX6_find rfl ⟨by decide, by decide⟩ ⟨by decide, by decide⟩ rfl (Nat.le_of_ble_eq_true rfl) dX6_premiumPay_6 ?_
    cases hE
    exact q_out hX hE0 (CxR_x hkr1 hR) (by decide) (by decide)
  rw [if_neg (fun h => h hkr1)] at hE
  refine q_callV (pc := 6) (id := 28) (As := [.int x1]) (rest := [.ref (o 33)]) (rv := some (.ref (o r1.2))) (st' := [.ref (o r1.2), .ref (o 33)]) hX (MI_0 hkr1 (c_X6_find hr1)) (vl_X6_60) (lt46 (by decide)) rfl rfl rfl pd_yX6_find rfl ⟨by decide, by decide⟩ ⟨by decide, by decide⟩ rfl (Nat.le_of_ble_eq_true rfl) rfl dX6_premiumPay_6 ?_
  have hemr1 := find_em hr1 hkr1
  obtain ⟨r2, hr2, hE⟩ := ob_bind hE
  refine q_callV (pc := 9) (id := 33) (As := [.ref (o r1.2)]) (rest := []) (rv := none) (st' := []) hX (c_X1_read hemr1 hr2) (vl_X6_131) (lt46 (by decide)) rfl rfl rfl pd_yX1_read rfl ⟨by decide, by decide⟩ ⟨by decide, by decide⟩ rfl (Nat.le_of_ble_eq_true rfl) rfl dX6_premiumPay_9 ?_
  refine q_aload_n (pc := 12) hX 0 rfl rfl dX6_premiumPay_12 ?_
  refine q_get (pc := 13) (id := 28) (ci := 6) (N := 6) (T := TX6) (C := RX6) hX 2 (lt46 (by decide)) rfl rfl in_X6 (by decide) (Or.inl kw_19) rfl dX6_premiumPay_13 ?_
  refine q_aload_n (pc := 16) hX 0 rfl rfl dX6_premiumPay_16 ?_
  refine q_get (pc := 17) (id := 28) (ci := 6) (N := 6) (T := TX6) (C := RX6) hX 3 (lt46 (by decide)) rfl rfl in_X6 (by decide) (Or.inl kw_23) rfl dX6_premiumPay_17 ?_
  refine q_get (pc := 20) (id := 33) (ci := 1) (N := 3) (T := TX1) (C := RX1) hX 2 (lt46 (by decide)) rfl rfl in_X1 (by decide) (Or.inr ⟨_, fn_X6_139⟩) rfl dX6_premiumPay_20 ?_
  obtain ⟨r3, hr3, hE⟩ := ob_bind hE
  refine q_callV (pc := 23) (id := 30) (As := [.ref (o 36)]) (rest := []) (rv := some (.int r3)) (st' := [.int r3]) hX (c_X2_payFor (tb_36 hn) hr3) (vl_X6_142) (lt46 (by decide)) rfl rfl rfl pd_yX2_payFor rfl ⟨by decide, by decide⟩ ⟨by decide, by decide⟩ rfl (Nat.le_of_ble_eq_true rfl) rfl dX6_premiumPay_23 ?_
  cases hE
  exact q_iret hX hR (by decide) (by decide) dX6_premiumPay_26

set_option maxHeartbeats 4000000 in
theorem c_X6_pay {Y : Lx} {o : Nat → Nat} {hn : Nat} {M : Mem} {G : Mel} {x1 : Int32} {kr : Nat} {rr : Int32} {Mr : Mem} (hE : s_X6_pay M hn x1 = some (kr, rr, Mr)) : MI Y yX6_pay cX6_pay 3 (some .int) 7 140 1 6 [.ref (o 28), .int x1] o hn M G (rsOf kr (some (.int rr))) Mr G := by
  refine MI.of (by decide +kernel) (Nat.le_of_ble_eq_true rfl) (fun X hY hX hE0 hR => ?_)
  change CxOK X RX6 cX6_pay 3 7 140 1 6 (some .int) at hX
  show WM X o hn M G 0 0 0 3 [(0, .ref (o 28)), (1, .int x1)] []
  unfold s_X6_pay at hE
  refine q_aload_n (pc := 0) hX 0 rfl rfl dX6_pay_0 ?_
  refine q_iload_n (pc := 1) hX 1 rfl rfl dX6_pay_1 ?_
  obtain ⟨r1, hr1, hE⟩ := ob_bind hE
  by_cases hkr1 : r1.1 = 0
  rotate_left
  · rw [if_pos hkr1] at hE
    refine q_callVx (pc := 2) (id := 28) (As := [.int x1]) (rest := []) hX (MI_x hkr1 (c_X6_find hr1)) (vl_X6_60) (lt46 (by decide)) rfl rfl rfl pd_yX6_find rfl ⟨by decide, by decide⟩ ⟨by decide, by decide⟩ rfl (Nat.le_of_ble_eq_true rfl) dX6_pay_2 ?_
    cases hE
    exact q_out hX hE0 (CxR_x hkr1 hR) (by decide) (by decide)
  rw [if_neg (fun h => h hkr1)] at hE
  refine q_callV (pc := 2) (id := 28) (As := [.int x1]) (rest := []) (rv := some (.ref (o r1.2))) (st' := [.ref (o r1.2)]) hX (MI_0 hkr1 (c_X6_find hr1)) (vl_X6_60) (lt46 (by decide)) rfl rfl rfl pd_yX6_find rfl ⟨by decide, by decide⟩ ⟨by decide, by decide⟩ rfl (Nat.le_of_ble_eq_true rfl) rfl dX6_pay_2 ?_
  have hemr1 := find_em hr1 hkr1
  refine q_astore_n (pc := 5) (lo' := [(0, .ref (o 28)), (1, .int x1), (2, .ref (o r1.2))]) hX [1, 2, 0] rfl (by decide) rfl dX6_pay_5 ?_
  refine q_aload_n (pc := 6) hX 0 rfl rfl dX6_pay_6 ?_
  refine q_get (pc := 7) (id := 28) (ci := 6) (N := 6) (T := TX6) (C := RX6) hX 3 (lt46 (by decide)) rfl rfl in_X6 (by decide) (Or.inl kw_23) rfl dX6_pay_7 ?_
  refine q_aload_n (pc := 10) hX 2 rfl rfl dX6_pay_10 ?_
  obtain ⟨r2, hr2, hE⟩ := ob_bind hE
  refine q_callV (pc := 11) (id := 33) (As := [.ref (o r1.2)]) (rest := []) (rv := none) (st' := []) hX (c_X1_read hemr1 hr2) (vl_X6_131) (lt46 (by decide)) rfl rfl rfl pd_yX1_read rfl ⟨by decide, by decide⟩ ⟨by decide, by decide⟩ rfl (Nat.le_of_ble_eq_true rfl) rfl dX6_pay_11 ?_
  refine q_aload_n (pc := 14) hX 0 rfl rfl dX6_pay_14 ?_
  refine q_get (pc := 15) (id := 28) (ci := 6) (N := 6) (T := TX6) (C := RX6) hX 3 (lt46 (by decide)) rfl rfl in_X6 (by decide) (Or.inl kw_23) rfl dX6_pay_15 ?_
  refine q_aload_n (pc := 18) hX 2 rfl rfl dX6_pay_18 ?_
  refine q_get (pc := 19) (id := r1.2) (ci := 0) (N := 6) (T := TX0) (C := RX0) hX 0 (em_lt hemr1) (ob_E hemr1 _ _) rfl in_X0 (by decide) (Or.inr ⟨_, fn_X6_64⟩) rfl dX6_pay_19 ?_
  obtain ⟨r3, hr3, hE⟩ := ob_bind hE
  refine q_callV (pc := 22) (id := 33) (As := [.int (r2 r1.2 0)]) (rest := []) (rv := some (.int r3)) (st' := [.int r3]) hX (c_X1_basicPay hr3) (vl_X6_135) (lt46 (by decide)) rfl rfl rfl pd_yX1_basicPay rfl ⟨by decide, by decide⟩ ⟨by decide, by decide⟩ rfl (Nat.le_of_ble_eq_true rfl) rfl dX6_pay_22 ?_
  refine q_aload_n (pc := 25) hX 0 rfl rfl dX6_pay_25 ?_
  refine q_get (pc := 26) (id := 28) (ci := 6) (N := 6) (T := TX6) (C := RX6) hX 2 (lt46 (by decide)) rfl rfl in_X6 (by decide) (Or.inl kw_19) rfl dX6_pay_26 ?_
  refine q_aload_n (pc := 29) hX 0 rfl rfl dX6_pay_29 ?_
  refine q_get (pc := 30) (id := 28) (ci := 6) (N := 6) (T := TX6) (C := RX6) hX 3 (lt46 (by decide)) rfl rfl in_X6 (by decide) (Or.inl kw_23) rfl dX6_pay_30 ?_
  refine q_get (pc := 33) (id := 33) (ci := 1) (N := 3) (T := TX1) (C := RX1) hX 2 (lt46 (by decide)) rfl rfl in_X1 (by decide) (Or.inr ⟨_, fn_X6_139⟩) rfl dX6_pay_33 ?_
  obtain ⟨r4, hr4, hE⟩ := ob_bind hE
  refine q_callV (pc := 36) (id := 30) (As := [.ref (o 36)]) (rest := [.int r3]) (rv := some (.int r4)) (st' := [.int r4, .int r3]) hX (c_X2_payFor (tb_36 hn) hr4) (vl_X6_142) (lt46 (by decide)) rfl rfl rfl pd_yX2_payFor rfl ⟨by decide, by decide⟩ ⟨by decide, by decide⟩ rfl (Nat.le_of_ble_eq_true rfl) rfl dX6_pay_36 ?_
  refine q_iadd (pc := 39) hX dX6_pay_39 ?_
  cases hE
  exact q_iret hX hR (by decide) (by decide) dX6_pay_40

set_option maxHeartbeats 4000000 in
theorem c_X4_size {Y : Lx} {o : Nat → Nat} {hn : Nat} {M : Mem} {G : Mel} {t : Nat} {rr : Int32} (ht : tb hn t) (hE : s_X4_size M t = some (rr)) : MI Y yX4_size cX4_size 1 (some .int) 0 0 0 0 [.ref (o t)] o hn M G (.inl (some (.int rr))) M G := by
  refine MI.of (by decide +kernel) (Nat.le_of_ble_eq_true rfl) (fun X hY hX hE0 hR => ?_)
  change CxOK X RX4 cX4_size 1 0 0 0 0 (some .int) at hX
  show WM X o hn M G 0 0 0 1 [(0, .ref (o t))] []
  unfold s_X4_size at hE
  refine q_aload_n (pc := 0) hX 0 rfl rfl dX4_size_0 ?_
  refine q_get (pc := 1) (id := t) (ci := 4) (N := 3) (T := TX4) (C := RX4) hX 2 (tb_lt ht) (ob_T ht.1 _ _) rfl in_X4 (by decide) (Or.inl kw_37) rfl dX4_size_1 ?_
  cases hE
  exact q_iret hX hR (by decide) (by decide) dX4_size_4

set_option maxHeartbeats 4000000 in
theorem l_X4_insert_46 {X : Cx} (hX : CxOK X RX4 cX4_insert 3 0 0 0 0 none) (hE0 : CxE X []) {o : Nat → Nat} {hn : Nat} {t : Nat} {x1 : Int32} {G : Mel} (ht : tb hn t) : ∀ (f : Nat) (y2 : Int32) (M3 : Mem) (p7 : Int32 × Mem), L_X4_insert_46 t x1 f y2 M3 = some p7 → WM X o hn p7.2 G 0 0 81 3 [(0, .ref (o t)), (1, .int x1), (2, .int p7.1)] [] → WM X o hn M3 G 0 0 46 3 [(0, .ref (o t)), (1, .int x1), (2, .int y2)] [] := by
  intro f
  induction f with
  | zero => intro y2 M3 p7 hE; simp [L_X4_insert_46] at hE
  | succ f ih =>
    intro y2 M3 p7 hE hx
    rw [L_X4_insert_46] at hE
    refine q_iload_n (pc := 46) hX 2 rfl rfl dX4_insert_46 ?_
    refine q_iload_n (pc := 47) hX 1 rfl rfl dX4_insert_47 ?_
    refine q_iconst (pc := 48) hX (1) rfl dX4_insert_48 ?_
    refine q_iadd (pc := 49) hX dX4_insert_49 ?_
    refine q_aload_n (pc := 50) hX 0 rfl rfl dX4_insert_50 ?_
    refine q_get (pc := 51) (id := t) (ci := 4) (N := 3) (T := TX4) (C := RX4) hX 0 (tb_lt ht) (ob_T ht.1 _ _) rfl in_X4 (by decide) (Or.inl kw_35) rfl dX4_insert_51 ?_
    refine q_imul (pc := 54) hX dX4_insert_54 ?_
    refine q_icmp_lt (pc := 55) hX 81 (by decide) dX4_insert_55 (fun c => ?_) (fun c => ?_)
    · rw [if_pos c] at hE
      cases hE
      exact hx
    · rw [if_neg c] at hE
      refine q_aload_n (pc := 58) hX 0 rfl rfl dX4_insert_58 ?_
      refine q_get (pc := 59) (id := t) (ci := 4) (N := 3) (T := TX4) (C := RX4) hX 1 (tb_lt ht) (ob_T ht.1 _ _) rfl in_X4 (by decide) (Or.inl kw_36) rfl dX4_insert_59 ?_
      refine q_iload_n (pc := 62) hX 2 rfl rfl dX4_insert_62 ?_
      refine q_aload_n (pc := 63) hX 0 rfl rfl dX4_insert_63 ?_
      refine q_get (pc := 64) (id := t) (ci := 4) (N := 3) (T := TX4) (C := RX4) hX 1 (tb_lt ht) (ob_T ht.1 _ _) rfl in_X4 (by decide) (Or.inl kw_36) rfl dX4_insert_64 ?_
      refine q_iload_n (pc := 67) hX 2 rfl rfl dX4_insert_67 ?_
      refine q_aload_n (pc := 68) hX 0 rfl rfl dX4_insert_68 ?_
      refine q_get (pc := 69) (id := t) (ci := 4) (N := 3) (T := TX4) (C := RX4) hX 0 (tb_lt ht) (ob_T ht.1 _ _) rfl in_X4 (by decide) (Or.inl kw_35) rfl dX4_insert_69 ?_
      refine q_isub (pc := 72) hX dX4_insert_72 ?_
      obtain ⟨v4, hv4, hE⟩ := ob_bind hE
      refine r_iald (pc := 73) (id := (t + 1)) (n := (tl t)) hX (tb_lt1 ht) (fun f g => ob_C ht.1 f g) hv4 dX4_insert_73 ?_
      obtain ⟨M5, hM5, hE⟩ := ob_bind hE
      refine r_iast (pc := 74) (id := (t + 1)) (n := (tl t)) hX (tb_lt1 ht) (fun f g => ob_C ht.1 f g) hM5 dX4_insert_74 ?_
      obtain ⟨z6, hz6⟩ : ∃ z : Int32, z = y2 + (-1) := ⟨_, rfl⟩
      have hE := bnd_nm hz6 hE
      refine q_iinc (pc := 75) (lo' := [(0, .ref (o t)), (1, .int x1), (2, .int z6)]) hX 2 z6 [1, 2, 0] rfl (by rw [hz6]; rfl) (by decide) rfl dX4_insert_75 ?_
      refine q_goto (pc := 78) hX 46 (by decide) dX4_insert_78 ?_
      exact ih _ _ p7 hE hx

set_option maxHeartbeats 4000000 in
theorem c_X4_insert {Y : Lx} {o : Nat → Nat} {hn : Nat} {M : Mem} {G : Mel} {t : Nat} {x1 : Int32} {Mr : Mem} (ht : tb hn t) (hE : s_X4_insert M t x1 = some (Mr)) : MI Y yX4_insert cX4_insert 3 none 0 0 0 0 [.ref (o t), .int x1] o hn M G (.inl (none)) Mr G := by
  refine MI.of (by decide +kernel) (Nat.le_of_ble_eq_true rfl) (fun X hY hX hE0 hR => ?_)
  change CxOK X RX4 cX4_insert 3 0 0 0 0 none at hX
  show WM X o hn M G 0 0 0 3 [(0, .ref (o t)), (1, .int x1)] []
  unfold s_X4_insert at hE
  refine q_iload_n (pc := 0) hX 1 rfl rfl dX4_insert_0 ?_
  refine q_if_lt (pc := 1) hX 31 (by decide) dX4_insert_1 (fun c => ?_) (fun c => ?_)
  · rw [if_pos c] at hE
    cases hE
    exact q_vret hX hR (by decide) (by decide) dX4_insert_31
  · rw [if_neg c] at hE
    refine q_iload_n (pc := 4) hX 1 rfl rfl dX4_insert_4 ?_
    refine q_aload_n (pc := 5) hX 0 rfl rfl dX4_insert_5 ?_
    refine q_get (pc := 6) (id := t) (ci := 4) (N := 3) (T := TX4) (C := RX4) hX 2 (tb_lt ht) (ob_T ht.1 _ _) rfl in_X4 (by decide) (Or.inl kw_37) rfl dX4_insert_6 ?_
    refine q_icmp_gt (pc := 9) hX 31 (by decide) dX4_insert_9 (fun c => ?_) (fun c => ?_)
    · rw [if_pos c] at hE
      cases hE
      exact q_vret hX hR (by decide) (by decide) dX4_insert_31
    · rw [if_neg c] at hE
      refine q_aload_n (pc := 12) hX 0 rfl rfl dX4_insert_12 ?_
      refine q_get (pc := 13) (id := t) (ci := 4) (N := 3) (T := TX4) (C := RX4) hX 2 (tb_lt ht) (ob_T ht.1 _ _) rfl in_X4 (by decide) (Or.inl kw_37) rfl dX4_insert_13 ?_
      refine q_iconst (pc := 16) hX (1) rfl dX4_insert_16 ?_
      refine q_iadd (pc := 17) hX dX4_insert_17 ?_
      refine q_aload_n (pc := 18) hX 0 rfl rfl dX4_insert_18 ?_
      refine q_get (pc := 19) (id := t) (ci := 4) (N := 3) (T := TX4) (C := RX4) hX 0 (tb_lt ht) (ob_T ht.1 _ _) rfl in_X4 (by decide) (Or.inl kw_35) rfl dX4_insert_19 ?_
      refine q_imul (pc := 22) hX dX4_insert_22 ?_
      refine q_aload_n (pc := 23) hX 0 rfl rfl dX4_insert_23 ?_
      refine q_get (pc := 24) (id := t) (ci := 4) (N := 3) (T := TX4) (C := RX4) hX 1 (tb_lt ht) (ob_T ht.1 _ _) rfl in_X4 (by decide) (Or.inl kw_36) rfl dX4_insert_24 ?_
      refine r_alen (pc := 27) (id := (t + 1)) (n := (tl t)) hX (nI (tl t)) (tb_lt1 ht) (fun f g => ob_C ht.1 f g) rfl dX4_insert_27 ?_
      refine q_icmp_le (pc := 28) hX 32 (by decide) dX4_insert_28 (fun c => ?_) (fun c => ?_)
      · rw [if_pos c] at hE
        refine q_aload_n (pc := 32) hX 0 rfl rfl dX4_insert_32 ?_
        refine q_get (pc := 33) (id := t) (ci := 4) (N := 3) (T := TX4) (C := RX4) hX 2 (tb_lt ht) (ob_T ht.1 _ _) rfl in_X4 (by decide) (Or.inl kw_37) rfl dX4_insert_33 ?_
        refine q_iconst (pc := 36) hX (1) rfl dX4_insert_36 ?_
        refine q_iadd (pc := 37) hX dX4_insert_37 ?_
        refine q_aload_n (pc := 38) hX 0 rfl rfl dX4_insert_38 ?_
        refine q_get (pc := 39) (id := t) (ci := 4) (N := 3) (T := TX4) (C := RX4) hX 0 (tb_lt ht) (ob_T ht.1 _ _) rfl in_X4 (by decide) (Or.inl kw_35) rfl dX4_insert_39 ?_
        refine q_imul (pc := 42) hX dX4_insert_42 ?_
        refine q_iconst (pc := 43) hX (1) rfl dX4_insert_43 ?_
        refine q_isub (pc := 44) hX dX4_insert_44 ?_
        refine q_nm (fun z1 hz1 => ?_)
        have hE := bnd_nm hz1 hE
        refine q_istore_n (pc := 45) (lo' := [(0, .ref (o t)), (1, .int x1), (2, .int z1)]) hX [1, 2, 0] rfl (by decide) rfl dX4_insert_45 ?_
        obtain ⟨p7, hp7, hE⟩ := ob_bind hE
        refine l_X4_insert_46 hX hE0 ht FU _ _ p7 hp7 ?_
        refine q_aload_n (pc := 81) hX 0 rfl rfl dX4_insert_81 ?_
        refine q_dup (pc := 82) hX rfl dX4_insert_82 ?_
        refine q_get (pc := 83) (id := t) (ci := 4) (N := 3) (T := TX4) (C := RX4) hX 2 (tb_lt ht) (ob_T ht.1 _ _) rfl in_X4 (by decide) (Or.inl kw_37) rfl dX4_insert_83 ?_
        refine q_iconst (pc := 86) hX (1) rfl dX4_insert_86 ?_
        refine q_iadd (pc := 87) hX dX4_insert_87 ?_
        obtain ⟨M8, hM8⟩ : ∃ z : Mem, z = mst p7.2 t 2 ((p7.2 t 2) + 1) := ⟨_, rfl⟩
        have hE := bnd_nm hM8 hE
        refine pu_T_rows (pc := 88) hX ht hM8 (Or.inl kw_37) dX4_insert_88 ?_
        cases hE
        exact q_vret hX hR (by decide) (by decide) dX4_insert_91
      · rw [if_neg c] at hE
        cases hE
        exact q_vret hX hR (by decide) (by decide) dX4_insert_31

set_option maxHeartbeats 4000000 in
theorem c_X4_set {Y : Lx} {o : Nat → Nat} {hn : Nat} {M : Mem} {G : Mel} {t : Nat} {x1 : Int32} {x2 : Int32} {x3 : Int32} {Mr : Mem} (ht : tb hn t) (hE : s_X4_set M t x1 x2 x3 = some (Mr)) : MI Y yX4_set cX4_set 5 none 0 0 0 0 [.ref (o t), .int x1, .int x2, .int x3] o hn M G (.inl (none)) Mr G := by
  refine MI.of (by decide +kernel) (Nat.le_of_ble_eq_true rfl) (fun X hY hX hE0 hR => ?_)
  change CxOK X RX4 cX4_set 5 0 0 0 0 none at hX
  show WM X o hn M G 0 0 0 5 [(0, .ref (o t)), (1, .int x1), (2, .int x2), (3, .int x3)] []
  unfold s_X4_set at hE
  refine q_iload_n (pc := 0) hX 1 rfl rfl dX4_set_0 ?_
  refine q_if_lt (pc := 1) hX 24 (by decide) dX4_set_1 (fun c => ?_) (fun c => ?_)
  · rw [if_pos c] at hE
    cases hE
    exact q_vret hX hR (by decide) (by decide) dX4_set_24
  · rw [if_neg c] at hE
    refine q_iload_n (pc := 4) hX 1 rfl rfl dX4_set_4 ?_
    refine q_aload_n (pc := 5) hX 0 rfl rfl dX4_set_5 ?_
    refine q_get (pc := 6) (id := t) (ci := 4) (N := 3) (T := TX4) (C := RX4) hX 2 (tb_lt ht) (ob_T ht.1 _ _) rfl in_X4 (by decide) (Or.inl kw_37) rfl dX4_set_6 ?_
    refine q_icmp_ge (pc := 9) hX 24 (by decide) dX4_set_9 (fun c => ?_) (fun c => ?_)
    · rw [if_pos c] at hE
      cases hE
      exact q_vret hX hR (by decide) (by decide) dX4_set_24
    · rw [if_neg c] at hE
      refine q_iload_n (pc := 12) hX 2 rfl rfl dX4_set_12 ?_
      refine q_if_lt (pc := 13) hX 24 (by decide) dX4_set_13 (fun c => ?_) (fun c => ?_)
      · rw [if_pos c] at hE
        cases hE
        exact q_vret hX hR (by decide) (by decide) dX4_set_24
      · rw [if_neg c] at hE
        refine q_iload_n (pc := 16) hX 2 rfl rfl dX4_set_16 ?_
        refine q_aload_n (pc := 17) hX 0 rfl rfl dX4_set_17 ?_
        refine q_get (pc := 18) (id := t) (ci := 4) (N := 3) (T := TX4) (C := RX4) hX 0 (tb_lt ht) (ob_T ht.1 _ _) rfl in_X4 (by decide) (Or.inl kw_35) rfl dX4_set_18 ?_
        refine q_icmp_lt (pc := 21) hX 25 (by decide) dX4_set_21 (fun c => ?_) (fun c => ?_)
        · rw [if_pos c] at hE
          refine q_iload_n (pc := 25) hX 1 rfl rfl dX4_set_25 ?_
          refine q_aload_n (pc := 26) hX 0 rfl rfl dX4_set_26 ?_
          refine q_get (pc := 27) (id := t) (ci := 4) (N := 3) (T := TX4) (C := RX4) hX 0 (tb_lt ht) (ob_T ht.1 _ _) rfl in_X4 (by decide) (Or.inl kw_35) rfl dX4_set_27 ?_
          refine q_imul (pc := 30) hX dX4_set_30 ?_
          refine q_iload_n (pc := 31) hX 2 rfl rfl dX4_set_31 ?_
          refine q_iadd (pc := 32) hX dX4_set_32 ?_
          refine q_nm (fun z1 hz1 => ?_)
          have hE := bnd_nm hz1 hE
          refine q_istore (pc := 33) (lo' := [(0, .ref (o t)), (1, .int x1), (2, .int x2), (3, .int x3), (4, .int z1)]) hX [1, 2, 3, 4, 0] (by decide) rfl dX4_set_33 ?_
          refine q_iload (pc := 35) hX 4 rfl dX4_set_35 ?_
          refine q_if_lt (pc := 37) hX 58 (by decide) dX4_set_37 (fun c => ?_) (fun c => ?_)
          · rw [if_pos c] at hE
            cases hE
            exact q_vret hX hR (by decide) (by decide) dX4_set_58
          · rw [if_neg c] at hE
            refine q_iload (pc := 40) hX 4 rfl dX4_set_40 ?_
            refine q_aload_n (pc := 42) hX 0 rfl rfl dX4_set_42 ?_
            refine q_get (pc := 43) (id := t) (ci := 4) (N := 3) (T := TX4) (C := RX4) hX 1 (tb_lt ht) (ob_T ht.1 _ _) rfl in_X4 (by decide) (Or.inl kw_36) rfl dX4_set_43 ?_
            refine r_alen (pc := 46) (id := (t + 1)) (n := (tl t)) hX (nI (tl t)) (tb_lt1 ht) (fun f g => ob_C ht.1 f g) rfl dX4_set_46 ?_
            refine q_icmp_ge (pc := 47) hX 58 (by decide) dX4_set_47 (fun c => ?_) (fun c => ?_)
            · rw [if_pos c] at hE
              cases hE
              exact q_vret hX hR (by decide) (by decide) dX4_set_58
            · rw [if_neg c] at hE
              refine q_aload_n (pc := 50) hX 0 rfl rfl dX4_set_50 ?_
              refine q_get (pc := 51) (id := t) (ci := 4) (N := 3) (T := TX4) (C := RX4) hX 1 (tb_lt ht) (ob_T ht.1 _ _) rfl in_X4 (by decide) (Or.inl kw_36) rfl dX4_set_51 ?_
              refine q_iload (pc := 54) hX 4 rfl dX4_set_54 ?_
              refine q_iload_n (pc := 56) hX 3 rfl rfl dX4_set_56 ?_
              obtain ⟨M2, hM2, hE⟩ := ob_bind hE
              refine r_iast (pc := 57) (id := (t + 1)) (n := (tl t)) hX (tb_lt1 ht) (fun f g => ob_C ht.1 f g) hM2 dX4_set_57 ?_
              cases hE
              exact q_vret hX hR (by decide) (by decide) dX4_set_58
        · rw [if_neg c] at hE
          cases hE
          exact q_vret hX hR (by decide) (by decide) dX4_set_24

set_option maxHeartbeats 4000000 in
theorem c_X4_addSpan {Y : Lx} {o : Nat → Nat} {hn : Nat} {M : Mem} {G : Mel} {t : Nat} {x1 : Int32} {x2 : Int32} {Mr : Mem} (ht : tb hn t) (hE : s_X4_addSpan M t x1 x2 = some (Mr)) : MI Y yX4_addSpan cX4_addSpan 4 none 1 24 0 0 [.ref (o t), .int x1, .int x2] o hn M G (.inl (none)) Mr G := by
  refine MI.of (by decide +kernel) (Nat.le_of_ble_eq_true rfl) (fun X hY hX hE0 hR => ?_)
  change CxOK X RX4 cX4_addSpan 4 1 24 0 0 none at hX
  show WM X o hn M G 0 0 0 4 [(0, .ref (o t)), (1, .int x1), (2, .int x2)] []
  unfold s_X4_addSpan at hE
  refine q_aload_n (pc := 0) hX 0 rfl rfl dX4_addSpan_0 ?_
  refine q_get (pc := 1) (id := t) (ci := 4) (N := 3) (T := TX4) (C := RX4) hX 2 (tb_lt ht) (ob_T ht.1 _ _) rfl in_X4 (by decide) (Or.inl kw_37) rfl dX4_addSpan_1 ?_
  refine q_nm (fun z1 hz1 => ?_)
  have hE := bnd_nm hz1 hE
  refine q_istore_n (pc := 4) (lo' := [(0, .ref (o t)), (1, .int x1), (2, .int x2), (3, .int z1)]) hX [1, 2, 3, 0] rfl (by decide) rfl dX4_addSpan_4 ?_
  refine q_aload_n (pc := 5) hX 0 rfl rfl dX4_addSpan_5 ?_
  refine q_iload_n (pc := 6) hX 3 rfl rfl dX4_addSpan_6 ?_
  obtain ⟨r2, hr2, hE⟩ := ob_bind hE
  refine q_callV (pc := 7) (id := t) (As := [.int z1]) (rest := []) (rv := none) (st' := []) hX (c_X4_insert ht hr2) (vl_X4_22) (tb_lt ht) (ob_T ht.1 _ _) rfl rfl pd_yX4_insert rfl ⟨by decide, by decide⟩ ⟨Nat.le_of_ble_eq_true rfl, Nat.le_of_ble_eq_true rfl⟩ rfl (Nat.le_of_ble_eq_true rfl) rfl dX4_addSpan_7 ?_
  refine q_aload_n (pc := 10) hX 0 rfl rfl dX4_addSpan_10 ?_
  refine q_iload_n (pc := 11) hX 3 rfl rfl dX4_addSpan_11 ?_
  refine q_iconst (pc := 12) hX (0) rfl dX4_addSpan_12 ?_
  refine q_iload_n (pc := 13) hX 1 rfl rfl dX4_addSpan_13 ?_
  obtain ⟨r3, hr3, hE⟩ := ob_bind hE
  refine q_callV (pc := 14) (id := t) (As := [.int z1, .int 0, .int x1]) (rest := []) (rv := none) (st' := []) hX (c_X4_set ht hr3) (vl_X4_26) (tb_lt ht) (ob_T ht.1 _ _) rfl rfl pd_yX4_set rfl ⟨by decide, by decide⟩ ⟨Nat.le_of_ble_eq_true rfl, Nat.le_of_ble_eq_true rfl⟩ rfl (Nat.le_of_ble_eq_true rfl) rfl dX4_addSpan_14 ?_
  refine q_aload_n (pc := 17) hX 0 rfl rfl dX4_addSpan_17 ?_
  refine q_iload_n (pc := 18) hX 3 rfl rfl dX4_addSpan_18 ?_
  refine q_iconst (pc := 19) hX (1) rfl dX4_addSpan_19 ?_
  refine q_iload_n (pc := 20) hX 2 rfl rfl dX4_addSpan_20 ?_
  obtain ⟨r4, hr4, hE⟩ := ob_bind hE
  refine q_callV (pc := 21) (id := t) (As := [.int z1, .int 1, .int x2]) (rest := []) (rv := none) (st' := []) hX (c_X4_set ht hr4) (vl_X4_26) (tb_lt ht) (ob_T ht.1 _ _) rfl rfl pd_yX4_set rfl ⟨by decide, by decide⟩ ⟨Nat.le_of_ble_eq_true rfl, Nat.le_of_ble_eq_true rfl⟩ rfl (Nat.le_of_ble_eq_true rfl) rfl dX4_addSpan_21 ?_
  cases hE
  exact q_vret hX hR (by decide) (by decide) dX4_addSpan_24

set_option maxHeartbeats 4000000 in
theorem c_X4_clear {Y : Lx} {o : Nat → Nat} {hn : Nat} {M : Mem} {G : Mel} {t : Nat} {Mr : Mem} (ht : tb hn t) (hE : s_X4_clear M t = some (Mr)) : MI Y yX4_clear cX4_clear 1 none 0 0 0 0 [.ref (o t)] o hn M G (.inl (none)) Mr G := by
  refine MI.of (by decide +kernel) (Nat.le_of_ble_eq_true rfl) (fun X hY hX hE0 hR => ?_)
  change CxOK X RX4 cX4_clear 1 0 0 0 0 none at hX
  show WM X o hn M G 0 0 0 1 [(0, .ref (o t))] []
  unfold s_X4_clear at hE
  refine q_aload_n (pc := 0) hX 0 rfl rfl dX4_clear_0 ?_
  refine q_iconst (pc := 1) hX (0) rfl dX4_clear_1 ?_
  obtain ⟨M1, hM1⟩ : ∃ z : Mem, z = mst M t 2 0 := ⟨_, rfl⟩
  have hE := bnd_nm hM1 hE
  refine pu_T_rows (pc := 2) hX ht hM1 (Or.inl kw_37) dX4_clear_2 ?_
  cases hE
  exact q_vret hX hR (by decide) (by decide) dX4_clear_5

set_option maxHeartbeats 4000000 in
theorem c_X4_get {Y : Lx} {o : Nat → Nat} {hn : Nat} {M : Mem} {G : Mel} {t : Nat} {x1 : Int32} {x2 : Int32} {rr : Int32} (ht : tb hn t) (hE : s_X4_get M t x1 x2 = some (rr)) : MI Y yX4_get cX4_get 4 (some .int) 0 0 0 0 [.ref (o t), .int x1, .int x2] o hn M G (.inl (some (.int rr))) M G := by
  refine MI.of (by decide +kernel) (Nat.le_of_ble_eq_true rfl) (fun X hY hX hE0 hR => ?_)
  change CxOK X RX4 cX4_get 4 0 0 0 0 (some .int) at hX
  show WM X o hn M G 0 0 0 4 [(0, .ref (o t)), (1, .int x1), (2, .int x2)] []
  unfold s_X4_get at hE
  refine q_iload_n (pc := 0) hX 1 rfl rfl dX4_get_0 ?_
  refine q_if_lt (pc := 1) hX 24 (by decide) dX4_get_1 (fun c => ?_) (fun c => ?_)
  · rw [if_pos c] at hE
    refine q_iconst (pc := 24) hX (0) rfl dX4_get_24 ?_
    cases hE
    exact q_iret hX hR (by decide) (by decide) dX4_get_25
  · rw [if_neg c] at hE
    refine q_iload_n (pc := 4) hX 1 rfl rfl dX4_get_4 ?_
    refine q_aload_n (pc := 5) hX 0 rfl rfl dX4_get_5 ?_
    refine q_get (pc := 6) (id := t) (ci := 4) (N := 3) (T := TX4) (C := RX4) hX 2 (tb_lt ht) (ob_T ht.1 _ _) rfl in_X4 (by decide) (Or.inl kw_37) rfl dX4_get_6 ?_
    refine q_icmp_ge (pc := 9) hX 24 (by decide) dX4_get_9 (fun c => ?_) (fun c => ?_)
    · rw [if_pos c] at hE
      refine q_iconst (pc := 24) hX (0) rfl dX4_get_24 ?_
      cases hE
      exact q_iret hX hR (by decide) (by decide) dX4_get_25
    · rw [if_neg c] at hE
      refine q_iload_n (pc := 12) hX 2 rfl rfl dX4_get_12 ?_
      refine q_if_lt (pc := 13) hX 24 (by decide) dX4_get_13 (fun c => ?_) (fun c => ?_)
      · rw [if_pos c] at hE
        refine q_iconst (pc := 24) hX (0) rfl dX4_get_24 ?_
        cases hE
        exact q_iret hX hR (by decide) (by decide) dX4_get_25
      · rw [if_neg c] at hE
        refine q_iload_n (pc := 16) hX 2 rfl rfl dX4_get_16 ?_
        refine q_aload_n (pc := 17) hX 0 rfl rfl dX4_get_17 ?_
        refine q_get (pc := 18) (id := t) (ci := 4) (N := 3) (T := TX4) (C := RX4) hX 0 (tb_lt ht) (ob_T ht.1 _ _) rfl in_X4 (by decide) (Or.inl kw_35) rfl dX4_get_18 ?_
        refine q_icmp_lt (pc := 21) hX 26 (by decide) dX4_get_21 (fun c => ?_) (fun c => ?_)
        · rw [if_pos c] at hE
          refine q_iload_n (pc := 26) hX 1 rfl rfl dX4_get_26 ?_
          refine q_aload_n (pc := 27) hX 0 rfl rfl dX4_get_27 ?_
          refine q_get (pc := 28) (id := t) (ci := 4) (N := 3) (T := TX4) (C := RX4) hX 0 (tb_lt ht) (ob_T ht.1 _ _) rfl in_X4 (by decide) (Or.inl kw_35) rfl dX4_get_28 ?_
          refine q_imul (pc := 31) hX dX4_get_31 ?_
          refine q_iload_n (pc := 32) hX 2 rfl rfl dX4_get_32 ?_
          refine q_iadd (pc := 33) hX dX4_get_33 ?_
          refine q_nm (fun z1 hz1 => ?_)
          have hE := bnd_nm hz1 hE
          refine q_istore_n (pc := 34) (lo' := [(0, .ref (o t)), (1, .int x1), (2, .int x2), (3, .int z1)]) hX [1, 2, 3, 0] rfl (by decide) rfl dX4_get_34 ?_
          refine q_iload_n (pc := 35) hX 3 rfl rfl dX4_get_35 ?_
          refine q_if_lt (pc := 36) hX 57 (by decide) dX4_get_36 (fun c => ?_) (fun c => ?_)
          · rw [if_pos c] at hE
            refine q_iconst (pc := 57) hX (0) rfl dX4_get_57 ?_
            cases hE
            exact q_iret hX hR (by decide) (by decide) dX4_get_58
          · rw [if_neg c] at hE
            refine q_iload_n (pc := 39) hX 3 rfl rfl dX4_get_39 ?_
            refine q_aload_n (pc := 40) hX 0 rfl rfl dX4_get_40 ?_
            refine q_get (pc := 41) (id := t) (ci := 4) (N := 3) (T := TX4) (C := RX4) hX 1 (tb_lt ht) (ob_T ht.1 _ _) rfl in_X4 (by decide) (Or.inl kw_36) rfl dX4_get_41 ?_
            refine r_alen (pc := 44) (id := (t + 1)) (n := (tl t)) hX (nI (tl t)) (tb_lt1 ht) (fun f g => ob_C ht.1 f g) rfl dX4_get_44 ?_
            refine q_icmp_ge (pc := 45) hX 57 (by decide) dX4_get_45 (fun c => ?_) (fun c => ?_)
            · rw [if_pos c] at hE
              refine q_iconst (pc := 57) hX (0) rfl dX4_get_57 ?_
              cases hE
              exact q_iret hX hR (by decide) (by decide) dX4_get_58
            · rw [if_neg c] at hE
              refine q_aload_n (pc := 48) hX 0 rfl rfl dX4_get_48 ?_
              refine q_get (pc := 49) (id := t) (ci := 4) (N := 3) (T := TX4) (C := RX4) hX 1 (tb_lt ht) (ob_T ht.1 _ _) rfl in_X4 (by decide) (Or.inl kw_36) rfl dX4_get_49 ?_
              refine q_iload_n (pc := 52) hX 3 rfl rfl dX4_get_52 ?_
              obtain ⟨v2, hv2, hE⟩ := ob_bind hE
              refine r_iald (pc := 53) (id := (t + 1)) (n := (tl t)) hX (tb_lt1 ht) (fun f g => ob_C ht.1 f g) hv2 dX4_get_53 ?_
              refine q_goto (pc := 54) hX 58 (by decide) dX4_get_54 ?_
              cases hE
              exact q_iret hX hR (by decide) (by decide) dX4_get_58
        · rw [if_neg c] at hE
          refine q_iconst (pc := 24) hX (0) rfl dX4_get_24 ?_
          cases hE
          exact q_iret hX hR (by decide) (by decide) dX4_get_25

set_option maxHeartbeats 4000000 in
theorem c_X0_beginNextWeek {Y : Lx} {o : Nat → Nat} {hn : Nat} {M : Mem} {G : Mel} {e : Nat} {x1 : Int32} {Mr : Mem} {Gr : Mel} (he : em hn e) (hE : s_X0_beginNextWeek M G e x1 = some (Mr, Gr)) : MI Y yX0_beginNextWeek cX0_beginNextWeek 2 none 1 20 0 0 [.ref (o e), .int x1] o hn M G (.inl (none)) Mr Gr := by
  refine MI.of (by decide +kernel) (Nat.le_of_ble_eq_true rfl) (fun X hY hX hE0 hR => ?_)
  change CxOK X RX0 cX0_beginNextWeek 2 1 20 0 0 none at hX
  show WM X o hn M G 0 0 0 2 [(0, .ref (o e)), (1, .int x1)] []
  unfold s_X0_beginNextWeek at hE
  refine q_aload_n (pc := 0) hX 0 rfl rfl dX0_beginNextWeek_0 ?_
  refine q_dup (pc := 1) hX rfl dX0_beginNextWeek_1 ?_
  refine q_get (pc := 2) (id := e) (ci := 0) (N := 6) (T := TX0) (C := RX0) hX 2 (em_lt he) (ob_E he _ _) rfl in_X0 (by decide) (Or.inl kw_99) rfl dX0_beginNextWeek_2 ?_
  refine q_iload_n (pc := 5) hX 1 rfl rfl dX0_beginNextWeek_5 ?_
  refine q_i2l (pc := 6) hX dX0_beginNextWeek_6 ?_
  refine q_ladd (pc := 7) hX dX0_beginNextWeek_7 ?_
  obtain ⟨G1, hG1⟩ : ∃ z : Mel, z = mstL G e 2 ((G e 2) + x1.toInt64) := ⟨_, rfl⟩
  have hE := bnd_nm hG1 hE
  refine pu_E_earn (pc := 8) hX he hG1 (Or.inl kw_99) dX0_beginNextWeek_8 ?_
  refine q_aload_n (pc := 11) hX 0 rfl rfl dX0_beginNextWeek_11 ?_
  refine q_dup (pc := 12) hX rfl dX0_beginNextWeek_12 ?_
  refine q_get (pc := 13) (id := e) (ci := 0) (N := 6) (T := TX0) (C := RX0) hX 1 (em_lt he) (ob_E he _ _) rfl in_X0 (by decide) (Or.inl kw_98) rfl dX0_beginNextWeek_13 ?_
  refine q_iconst (pc := 16) hX (1) rfl dX0_beginNextWeek_16 ?_
  refine q_iadd (pc := 17) hX dX0_beginNextWeek_17 ?_
  obtain ⟨M2, hM2⟩ : ∃ z : Mem, z = mst M e 1 ((M e 1) + 1) := ⟨_, rfl⟩
  have hE := bnd_nm hM2 hE
  refine pu_E_weeks (pc := 18) hX he hM2 (Or.inl kw_98) dX0_beginNextWeek_18 ?_
  refine q_aload_n (pc := 21) hX 0 rfl rfl dX0_beginNextWeek_21 ?_
  refine q_get (pc := 22) (id := e) (ci := 0) (N := 6) (T := TX0) (C := RX0) hX 3 (em_lt he) (ob_E he _ _) rfl in_X0 (by decide) (Or.inl kw_101) rfl dX0_beginNextWeek_22 ?_
  obtain ⟨r3, hr3, hE⟩ := ob_bind hE
  refine q_callV (pc := 25) (id := (e + 1)) (As := []) (rest := []) (rv := none) (st' := []) hX (c_X4_clear (tb_e1 he) hr3) (vl_X0_37) (tb_lt (tb_e1 he)) (ob_T (tb_e1 he).1 _ _) rfl rfl pd_yX4_clear rfl ⟨by decide, by decide⟩ ⟨Nat.le_of_ble_eq_true rfl, Nat.le_of_ble_eq_true rfl⟩ rfl (Nat.le_of_ble_eq_true rfl) rfl dX0_beginNextWeek_25 ?_
  refine q_aload_n (pc := 28) hX 0 rfl rfl dX0_beginNextWeek_28 ?_
  refine q_get (pc := 29) (id := e) (ci := 0) (N := 6) (T := TX0) (C := RX0) hX 4 (em_lt he) (ob_E he _ _) rfl in_X0 (by decide) (Or.inl kw_102) rfl dX0_beginNextWeek_29 ?_
  obtain ⟨r4, hr4, hE⟩ := ob_bind hE
  refine q_callV (pc := 32) (id := (e + 3)) (As := []) (rest := []) (rv := none) (st' := []) hX (c_X4_clear (tb_e3 he) hr4) (vl_X0_37) (tb_lt (tb_e3 he)) (ob_T (tb_e3 he).1 _ _) rfl rfl pd_yX4_clear rfl ⟨by decide, by decide⟩ ⟨Nat.le_of_ble_eq_true rfl, Nat.le_of_ble_eq_true rfl⟩ rfl (Nat.le_of_ble_eq_true rfl) rfl dX0_beginNextWeek_32 ?_
  refine q_aload_n (pc := 35) hX 0 rfl rfl dX0_beginNextWeek_35 ?_
  refine q_get (pc := 36) (id := e) (ci := 0) (N := 6) (T := TX0) (C := RX0) hX 5 (em_lt he) (ob_E he _ _) rfl in_X0 (by decide) (Or.inl kw_103) rfl dX0_beginNextWeek_36 ?_
  obtain ⟨r5, hr5, hE⟩ := ob_bind hE
  refine q_callV (pc := 39) (id := (e + 5)) (As := []) (rest := []) (rv := none) (st' := []) hX (c_X4_clear (tb_e5 he) hr5) (vl_X0_37) (tb_lt (tb_e5 he)) (ob_T (tb_e5 he).1 _ _) rfl rfl pd_yX4_clear rfl ⟨by decide, by decide⟩ ⟨Nat.le_of_ble_eq_true rfl, Nat.le_of_ble_eq_true rfl⟩ rfl (Nat.le_of_ble_eq_true rfl) rfl dX0_beginNextWeek_39 ?_
  cases hE
  exact q_vret hX hR (by decide) (by decide) dX0_beginNextWeek_42

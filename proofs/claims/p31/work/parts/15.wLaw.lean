set_option maxHeartbeats 4000000 in
theorem c_L_low {Y : Lx} {o : Nat → Nat} {hn : Nat} {M : Mem} {G : Mel} {x0 : Int32} {x1 : Int32} {rr : Int32} (hE : s_L_low x0 x1 = some (rr)) : MI Y yL_low cL_low 2 (some .int) 0 0 0 0 [.int x0, .int x1] o hn M G (.inl (some (.int rr))) M G := by
  refine MI.of (by decide +kernel) (Nat.le_of_ble_eq_true rfl) (fun X hY hX hE0 hR => ?_)
  change CxOK X RL cL_low 2 0 0 0 0 (some .int) at hX
  show WM X o hn M G 0 0 0 2 [(0, .int x0), (1, .int x1)] []
  unfold s_L_low at hE
  refine q_iload_n (pc := 0) hX 0 rfl rfl dL_low_0 ?_
  refine q_ldc (pc := 1) hX kw_78 dL_low_1 ?_
  refine q_iand (pc := 3) hX dL_low_3 ?_
  refine q_iload_n (pc := 4) hX 1 rfl rfl dL_low_4 ?_
  by_cases hg : x1 = 0
  · rw [if_pos hg] at hE
    cases hE
  rw [if_neg hg] at hE
  refine q_irem (pc := 5) hX hg dL_low_5 ?_
  cases hE
  exact q_iret hX hR (by decide) (by decide) dL_low_6

set_option maxHeartbeats 4000000 in
theorem l_L_reads_2 {X : Cx} (hX : CxOK X RL cL_reads 4 7 164 0 0 none) (hE0 : CxE X []) {o : Nat → Nat} {hn : Nat} {G : Mel} (ha : o 0 = 1) : ∀ (f : Nat) (y1 : Int32) (M2 : Mem) (p8 : Int32 × Mem), L_L_reads_2 hn f y1 M2 = some p8 → WM X o hn p8.2 G 0 0 42 4 [(0, .ref (o 28)), (1, .ref (o 26)), (2, .ref (o 27)), (3, .int p8.1)] [] → WM X o hn M2 G 0 0 2 4 [(0, .ref (o 28)), (1, .ref (o 26)), (2, .ref (o 27)), (3, .int y1)] [] := by
  intro f
  induction f with
  | zero => intro y1 M2 p8 hE; simp [L_L_reads_2] at hE
  | succ f ih =>
    intro y1 M2 p8 hE hx
    rw [L_L_reads_2] at hE
    refine q_iload_n (pc := 2) hX 3 rfl rfl dL_reads_2 ?_
    refine q_bipush (pc := 3) hX (21) (by decide) dL_reads_3 ?_
    refine q_icmp_ge (pc := 5) hX 42 (by decide) dL_reads_5 (fun c => ?_) (fun c => ?_)
    · rw [if_pos c] at hE
      cases hE
      exact hx
    · rw [if_neg c] at hE
      refine q_aload_n (pc := 8) hX 1 rfl rfl dL_reads_8 ?_
      refine q_iload_n (pc := 9) hX 3 rfl rfl dL_reads_9 ?_
      refine q_aload_n (pc := 10) hX 0 rfl rfl dL_reads_10 ?_
      refine q_iconst (pc := 11) hX (0) rfl dL_reads_11 ?_
      refine q_iload_n (pc := 12) hX 3 rfl rfl dL_reads_12 ?_
      refine q_iconst (pc := 13) hX (3) rfl dL_reads_13 ?_
      refine q_idiv (pc := 14) hX (by decide) dL_reads_14 ?_
      refine q_iload_n (pc := 15) hX 3 rfl rfl dL_reads_15 ?_
      refine q_iconst (pc := 16) hX (3) rfl dL_reads_16 ?_
      refine q_irem (pc := 17) hX (by decide) dL_reads_17 ?_
      obtain ⟨r3, hr3, hE⟩ := ob_bind hE
      have hkr3 : r3.1 = 0 := by
        by_cases h9 : r3.1 = 0
        · exact h9
        · rw [if_pos h9] at hE
          cases hE
      rw [if_neg (fun h => h hkr3)] at hE
      refine q_callV (pc := 18) (id := 28) (As := [.int 0, .int (y1 / 3), .int (y1 - y1 / 3 * 3)]) (rest := [.int y1, .ref (o 26)]) (rv := some (.int r3.2.1)) (st' := [.int r3.2.1, .int y1, .ref (o 26)]) hX (c_X6_minutes (thr_z hr3 hkr3)) (vl_L_8) (lt46 (by decide)) rfl rfl rfl pd_yX6_minutes rfl ⟨by decide, by decide⟩ ⟨Nat.le_of_ble_eq_true rfl, Nat.le_of_ble_eq_true rfl⟩ rfl (Nat.le_of_ble_eq_true rfl) rfl dL_reads_18 ?_
      obtain ⟨M4, hM4, hE⟩ := ob_bind hE
      refine r_iast (pc := 21) (id := 26) (n := 21) hX (ar26 ha) (fun _ _ => rfl) hM4 dL_reads_21 ?_
      refine q_aload_n (pc := 22) hX 2 rfl rfl dL_reads_22 ?_
      refine q_iload_n (pc := 23) hX 3 rfl rfl dL_reads_23 ?_
      refine q_aload_n (pc := 24) hX 0 rfl rfl dL_reads_24 ?_
      refine q_iconst (pc := 25) hX (0) rfl dL_reads_25 ?_
      refine q_iload_n (pc := 26) hX 3 rfl rfl dL_reads_26 ?_
      refine q_iconst (pc := 27) hX (3) rfl dL_reads_27 ?_
      refine q_idiv (pc := 28) hX (by decide) dL_reads_28 ?_
      refine q_iload_n (pc := 29) hX 3 rfl rfl dL_reads_29 ?_
      refine q_iconst (pc := 30) hX (3) rfl dL_reads_30 ?_
      refine q_irem (pc := 31) hX (by decide) dL_reads_31 ?_
      obtain ⟨r5, hr5, hE⟩ := ob_bind hE
      have hkr5 : r5.1 = 0 := by
        by_cases h9 : r5.1 = 0
        · exact h9
        · rw [if_pos h9] at hE
          cases hE
      rw [if_neg (fun h => h hkr5)] at hE
      refine q_callV (pc := 32) (id := 28) (As := [.int 0, .int (y1 / 3), .int (y1 - y1 / 3 * 3)]) (rest := [.int y1, .ref (o 27)]) (rv := some (.int r5.2.1)) (st' := [.int r5.2.1, .int y1, .ref (o 27)]) hX (c_X6_quarters (thr_z hr5 hkr5)) (vl_L_14) (lt46 (by decide)) rfl rfl rfl pd_yX6_quarters rfl ⟨by decide, by decide⟩ ⟨Nat.le_of_ble_eq_true rfl, Nat.le_of_ble_eq_true rfl⟩ rfl (Nat.le_of_ble_eq_true rfl) rfl dL_reads_32 ?_
      obtain ⟨M6, hM6, hE⟩ := ob_bind hE
      refine r_iast (pc := 35) (id := 27) (n := 21) hX (ar27 ha) (fun _ _ => rfl) hM6 dL_reads_35 ?_
      obtain ⟨z7, hz7⟩ : ∃ z : Int32, z = y1 + 1 := ⟨_, rfl⟩
      have hE := bnd_nm hz7 hE
      refine q_iinc (pc := 36) (lo' := [(0, .ref (o 28)), (1, .ref (o 26)), (2, .ref (o 27)), (3, .int z7)]) hX 3 z7 [1, 2, 3, 0] rfl (by rw [hz7]; rfl) (by decide) rfl dL_reads_36 ?_
      refine q_goto (pc := 39) hX 2 (by decide) dL_reads_39 ?_
      exact ih _ _ p8 hE hx

set_option maxHeartbeats 4000000 in
theorem c_L_reads {Y : Lx} {o : Nat → Nat} {hn : Nat} {M : Mem} {G : Mel} {Mr : Mem} (ha : o 0 = 1) (hE : s_L_reads M hn = some (Mr)) : MI Y yL_reads cL_reads 4 none 7 164 0 0 [.ref (o 28), .ref (o 26), .ref (o 27)] o hn M G (.inl (none)) Mr G := by
  refine MI.of (by decide +kernel) (Nat.le_of_ble_eq_true rfl) (fun X hY hX hE0 hR => ?_)
  change CxOK X RL cL_reads 4 7 164 0 0 none at hX
  show WM X o hn M G 0 0 0 4 [(0, .ref (o 28)), (1, .ref (o 26)), (2, .ref (o 27))] []
  unfold s_L_reads at hE
  refine q_iconst (pc := 0) hX (0) rfl dL_reads_0 ?_
  refine q_istore_n (pc := 1) (lo' := [(0, .ref (o 28)), (1, .ref (o 26)), (2, .ref (o 27)), (3, .int 0)]) hX [1, 2, 3, 0] rfl (by decide) rfl dL_reads_1 ?_
  obtain ⟨p8, hp8, hE⟩ := ob_bind hE
  refine l_L_reads_2 hX hE0 ha FU _ _ p8 hp8 ?_
  cases hE
  exact q_vret hX hR (by decide) (by decide) dL_reads_42

set_option maxHeartbeats 4000000 in
theorem l_L_weekOf_84 {X : Cx} (hX : CxOK X RL cL_weekOf 10 0 0 0 0 (some .int)) (hE0 : CxE X []) {o : Nat → Nat} {hn : Nat} {M : Mem} {x2 : Int32} {G : Mel} {y4 : Int32} {z7 : Int32} {z12 : Int32} {z14 : Int32} (ha : o 0 = 1) : ∀ (f : Nat) (y15 : Int32) (y16 : Int32) (p29 : Int32 × Int32), L_L_weekOf_84 M y4 z7 f y15 y16 = some p29 → WM X o hn M G 0 0 171 10 [(0, .ref (o 26)), (1, .ref (o 27)), (2, .int x2), (3, .int z12), (4, .int z14), (5, .int p29.1), (6, .int y4), (7, .int z7), (8, .int p29.2)] [] → WM X o hn M G 0 0 84 10 [(0, .ref (o 26)), (1, .ref (o 27)), (2, .int x2), (3, .int z12), (4, .int z14), (5, .int y15), (6, .int y4), (7, .int z7), (8, .int y16)] [] := by
  intro f
  induction f with
  | zero => intro y15 y16 p29 hE; simp [L_L_weekOf_84] at hE
  | succ f ih =>
    intro y15 y16 p29 hE hx
    rw [L_L_weekOf_84] at hE
    refine q_iload (pc := 84) hX 8 rfl dL_weekOf_84 ?_
    refine q_iload (pc := 86) hX 6 rfl dL_weekOf_86 ?_
    refine q_icmp_ge (pc := 88) hX 171 (by decide) dL_weekOf_88 (fun c => ?_) (fun c => ?_)
    · rw [if_pos c] at hE
      cases hE
      exact hx
    · rw [if_neg c] at hE
      refine q_aload_n (pc := 91) hX 1 rfl rfl dL_weekOf_91 ?_
      refine q_iload (pc := 92) hX 8 rfl dL_weekOf_92 ?_
      obtain ⟨v17, hv17, hE⟩ := ob_bind hE
      refine r_iald (pc := 94) (id := 27) (n := 21) hX (ar27 ha) (fun _ _ => rfl) hv17 dL_weekOf_94 ?_
      refine q_aload_n (pc := 95) hX 0 rfl rfl dL_weekOf_95 ?_
      refine q_iload (pc := 96) hX 8 rfl dL_weekOf_96 ?_
      obtain ⟨v18, hv18, hE⟩ := ob_bind hE
      refine r_iald (pc := 98) (id := 26) (n := 21) hX (ar26 ha) (fun _ _ => rfl) hv18 dL_weekOf_98 ?_
      refine q_bipush (pc := 99) hX (15) (by decide) dL_weekOf_99 ?_
      refine q_idiv (pc := 101) hX (by decide) dL_weekOf_101 ?_
      refine q_isub (pc := 102) hX dL_weekOf_102 ?_
      refine q_nm (fun z19 hz19 => ?_)
      have hE := bnd_nm hz19 hE
      refine q_istore (pc := 103) (lo' := [(0, .ref (o 26)), (1, .ref (o 27)), (2, .int x2), (3, .int z12), (4, .int z14), (5, .int y15), (6, .int y4), (7, .int z7), (8, .int y16), (9, .int z19)]) hX [1, 2, 3, 4, 5, 6, 7, 8, 9, 0] (by decide) rfl dL_weekOf_103 ?_
      refine q_iload (pc := 105) hX 5 rfl dL_weekOf_105 ?_
      obtain ⟨p27, hp27, hE⟩ := ob_bind hE
      suffices Jp27 : WM X o hn M G 0 0 163 10 [(0, .ref (o 26)), (1, .ref (o 27)), (2, .int x2), (3, .int z12), (4, .int z14), (6, .int y4), (7, .int z7), (8, .int y16)] [.int p27] by
        refine q_if_eq (pc := 107) hX 162 (by decide) dL_weekOf_107 (fun c => ?_) (fun c => ?_)
        · rw [if_pos c] at hp27
          refine q_iconst (pc := 162) hX (0) rfl dL_weekOf_162 ?_
          refine q_lo [0, 1, 2, 3, 4, 6, 7, 8] rfl ?_
          cases hp27
          exact Jp27
        · rw [if_neg c] at hp27
          refine q_iload (pc := 110) hX 7 rfl dL_weekOf_110 ?_
          refine q_iload (pc := 112) hX 9 rfl dL_weekOf_112 ?_
          refine q_icmp_le (pc := 114) hX 134 (by decide) dL_weekOf_114 (fun c => ?_) (fun c => ?_)
          · rw [if_pos c] at hp27
            refine q_iload (pc := 134) hX 7 rfl dL_weekOf_134 ?_
            refine q_iload (pc := 136) hX 9 rfl dL_weekOf_136 ?_
            refine q_icmp_ge (pc := 138) hX 158 (by decide) dL_weekOf_138 (fun c => ?_) (fun c => ?_)
            · rw [if_pos c] at hp27
              refine q_iconst (pc := 158) hX (1) rfl dL_weekOf_158 ?_
              refine q_goto (pc := 159) hX 163 (by decide) dL_weekOf_159 ?_
              refine q_lo [0, 1, 2, 3, 4, 6, 7, 8] rfl ?_
              cases hp27
              exact Jp27
            · rw [if_neg c] at hp27
              refine q_aload_n (pc := 141) hX 0 rfl rfl dL_weekOf_141 ?_
              refine q_iload (pc := 142) hX 6 rfl dL_weekOf_142 ?_
              obtain ⟨v21, hv21, hp27⟩ := ob_bind hp27
              refine r_iald (pc := 144) (id := 26) (n := 21) hX (ar26 ha) (fun _ _ => rfl) hv21 dL_weekOf_144 ?_
              refine q_bipush (pc := 145) hX (15) (by decide) dL_weekOf_145 ?_
              refine q_irem (pc := 147) hX (by decide) dL_weekOf_147 ?_
              refine q_aload_n (pc := 148) hX 0 rfl rfl dL_weekOf_148 ?_
              refine q_iload (pc := 149) hX 8 rfl dL_weekOf_149 ?_
              obtain ⟨v22, hv22, hp27⟩ := ob_bind hp27
              refine r_iald (pc := 151) (id := 26) (n := 21) hX (ar26 ha) (fun _ _ => rfl) hv22 dL_weekOf_151 ?_
              refine q_bipush (pc := 152) hX (15) (by decide) dL_weekOf_152 ?_
              refine q_irem (pc := 154) hX (by decide) dL_weekOf_154 ?_
              refine q_icmp_gt (pc := 155) hX 162 (by decide) dL_weekOf_155 (fun c => ?_) (fun c => ?_)
              · rw [if_pos c] at hp27
                refine q_iconst (pc := 162) hX (0) rfl dL_weekOf_162 ?_
                refine q_lo [0, 1, 2, 3, 4, 6, 7, 8] rfl ?_
                cases hp27
                exact Jp27
              · rw [if_neg c] at hp27
                refine q_iconst (pc := 158) hX (1) rfl dL_weekOf_158 ?_
                refine q_goto (pc := 159) hX 163 (by decide) dL_weekOf_159 ?_
                refine q_lo [0, 1, 2, 3, 4, 6, 7, 8] rfl ?_
                cases hp27
                exact Jp27
          · rw [if_neg c] at hp27
            refine q_aload_n (pc := 117) hX 0 rfl rfl dL_weekOf_117 ?_
            refine q_iload (pc := 118) hX 6 rfl dL_weekOf_118 ?_
            obtain ⟨v23, hv23, hp27⟩ := ob_bind hp27
            refine r_iald (pc := 120) (id := 26) (n := 21) hX (ar26 ha) (fun _ _ => rfl) hv23 dL_weekOf_120 ?_
            refine q_bipush (pc := 121) hX (15) (by decide) dL_weekOf_121 ?_
            refine q_irem (pc := 123) hX (by decide) dL_weekOf_123 ?_
            refine q_aload_n (pc := 124) hX 0 rfl rfl dL_weekOf_124 ?_
            refine q_iload (pc := 125) hX 8 rfl dL_weekOf_125 ?_
            obtain ⟨v24, hv24, hp27⟩ := ob_bind hp27
            refine r_iald (pc := 127) (id := 26) (n := 21) hX (ar26 ha) (fun _ _ => rfl) hv24 dL_weekOf_127 ?_
            refine q_bipush (pc := 128) hX (15) (by decide) dL_weekOf_128 ?_
            refine q_irem (pc := 130) hX (by decide) dL_weekOf_130 ?_
            refine q_icmp_le (pc := 131) hX 162 (by decide) dL_weekOf_131 (fun c => ?_) (fun c => ?_)
            · rw [if_pos c] at hp27
              refine q_iconst (pc := 162) hX (0) rfl dL_weekOf_162 ?_
              refine q_lo [0, 1, 2, 3, 4, 6, 7, 8] rfl ?_
              cases hp27
              exact Jp27
            · rw [if_neg c] at hp27
              refine q_iload (pc := 134) hX 7 rfl dL_weekOf_134 ?_
              refine q_iload (pc := 136) hX 9 rfl dL_weekOf_136 ?_
              refine q_icmp_ge (pc := 138) hX 158 (by decide) dL_weekOf_138 (fun c => ?_) (fun c => ?_)
              · rw [if_pos c] at hp27
                refine q_iconst (pc := 158) hX (1) rfl dL_weekOf_158 ?_
                refine q_goto (pc := 159) hX 163 (by decide) dL_weekOf_159 ?_
                refine q_lo [0, 1, 2, 3, 4, 6, 7, 8] rfl ?_
                cases hp27
                exact Jp27
              · rw [if_neg c] at hp27
                refine q_aload_n (pc := 141) hX 0 rfl rfl dL_weekOf_141 ?_
                refine q_iload (pc := 142) hX 6 rfl dL_weekOf_142 ?_
                obtain ⟨v25, hv25, hp27⟩ := ob_bind hp27
                refine r_iald (pc := 144) (id := 26) (n := 21) hX (ar26 ha) (fun _ _ => rfl) hv25 dL_weekOf_144 ?_
                refine q_bipush (pc := 145) hX (15) (by decide) dL_weekOf_145 ?_
                refine q_irem (pc := 147) hX (by decide) dL_weekOf_147 ?_
                refine q_aload_n (pc := 148) hX 0 rfl rfl dL_weekOf_148 ?_
                refine q_iload (pc := 149) hX 8 rfl dL_weekOf_149 ?_
                obtain ⟨v26, hv26, hp27⟩ := ob_bind hp27
                refine r_iald (pc := 151) (id := 26) (n := 21) hX (ar26 ha) (fun _ _ => rfl) hv26 dL_weekOf_151 ?_
                refine q_bipush (pc := 152) hX (15) (by decide) dL_weekOf_152 ?_
                refine q_irem (pc := 154) hX (by decide) dL_weekOf_154 ?_
                refine q_icmp_gt (pc := 155) hX 162 (by decide) dL_weekOf_155 (fun c => ?_) (fun c => ?_)
                · rw [if_pos c] at hp27
                  refine q_iconst (pc := 162) hX (0) rfl dL_weekOf_162 ?_
                  refine q_lo [0, 1, 2, 3, 4, 6, 7, 8] rfl ?_
                  cases hp27
                  exact Jp27
                · rw [if_neg c] at hp27
                  refine q_iconst (pc := 158) hX (1) rfl dL_weekOf_158 ?_
                  refine q_goto (pc := 159) hX 163 (by decide) dL_weekOf_159 ?_
                  refine q_lo [0, 1, 2, 3, 4, 6, 7, 8] rfl ?_
                  cases hp27
                  exact Jp27
      refine q_istore (pc := 163) (lo' := [(0, .ref (o 26)), (1, .ref (o 27)), (2, .int x2), (3, .int z12), (4, .int z14), (5, .int p27), (6, .int y4), (7, .int z7), (8, .int y16)]) hX [1, 2, 3, 4, 5, 0, 6, 7, 8] (by decide) rfl dL_weekOf_163 ?_
      obtain ⟨z28, hz28⟩ : ∃ z : Int32, z = y16 + 3 := ⟨_, rfl⟩
      have hE := bnd_nm hz28 hE
      refine q_iinc (pc := 165) (lo' := [(0, .ref (o 26)), (1, .ref (o 27)), (2, .int x2), (3, .int z12), (4, .int z14), (5, .int p27), (6, .int y4), (7, .int z7), (8, .int z28)]) hX 8 z28 [1, 2, 3, 4, 5, 6, 7, 8, 0] rfl (by rw [hz28]; rfl) (by decide) rfl dL_weekOf_165 ?_
      refine q_goto (pc := 168) hX 84 (by decide) dL_weekOf_168 ?_
      exact ih _ _ p29 hE hx

set_option maxHeartbeats 4000000 in
theorem l_L_weekOf_11 {X : Cx} (hX : CxOK X RL cL_weekOf 10 0 0 0 0 (some .int)) (hE0 : CxE X []) {o : Nat → Nat} {hn : Nat} {M : Mem} {x2 : Int32} {G : Mel} (ha : o 0 = 1) : ∀ (f : Nat) (y1 : Int32) (y2 : Int32) (y3 : Int32) (y4 : Int32) (p31 : Int32 × Int32 × Int32 × Int32), L_L_weekOf_11 M x2 f y1 y2 y3 y4 = some p31 → WM X o hn M G 0 0 177 10 [(0, .ref (o 26)), (1, .ref (o 27)), (2, .int x2), (3, .int p31.1), (4, .int p31.2.1), (5, .int p31.2.2.1), (6, .int p31.2.2.2)] [] → WM X o hn M G 0 0 11 10 [(0, .ref (o 26)), (1, .ref (o 27)), (2, .int x2), (3, .int y1), (4, .int y2), (5, .int y3), (6, .int y4)] [] := by
  intro f
  induction f with
  | zero => intro y1 y2 y3 y4 p31 hE; simp [L_L_weekOf_11] at hE
  | succ f ih =>
    intro y1 y2 y3 y4 p31 hE hx
    rw [L_L_weekOf_11] at hE
    refine q_iload (pc := 11) hX 6 rfl dL_weekOf_11 ?_
    refine q_bipush (pc := 13) hX (21) (by decide) dL_weekOf_13 ?_
    refine q_icmp_ge (pc := 15) hX 177 (by decide) dL_weekOf_15 (fun c => ?_) (fun c => ?_)
    · rw [if_pos c] at hE
      cases hE
      exact hx
    · rw [if_neg c] at hE
      refine q_aload_n (pc := 18) hX 1 rfl rfl dL_weekOf_18 ?_
      refine q_iload (pc := 19) hX 6 rfl dL_weekOf_19 ?_
      obtain ⟨v5, hv5, hE⟩ := ob_bind hE
      refine r_iald (pc := 21) (id := 27) (n := 21) hX (ar27 ha) (fun _ _ => rfl) hv5 dL_weekOf_21 ?_
      refine q_aload_n (pc := 22) hX 0 rfl rfl dL_weekOf_22 ?_
      refine q_iload (pc := 23) hX 6 rfl dL_weekOf_23 ?_
      obtain ⟨v6, hv6, hE⟩ := ob_bind hE
      refine r_iald (pc := 25) (id := 26) (n := 21) hX (ar26 ha) (fun _ _ => rfl) hv6 dL_weekOf_25 ?_
      refine q_bipush (pc := 26) hX (15) (by decide) dL_weekOf_26 ?_
      refine q_idiv (pc := 28) hX (by decide) dL_weekOf_28 ?_
      refine q_isub (pc := 29) hX dL_weekOf_29 ?_
      refine q_nm (fun z7 hz7 => ?_)
      have hE := bnd_nm hz7 hE
      refine q_istore (pc := 30) (lo' := [(0, .ref (o 26)), (1, .ref (o 27)), (2, .int x2), (3, .int y1), (4, .int y2), (5, .int y3), (6, .int y4), (7, .int z7)]) hX [1, 2, 3, 4, 5, 6, 7, 0] (by decide) rfl dL_weekOf_30 ?_
      refine q_iload (pc := 32) hX 5 rfl dL_weekOf_32 ?_
      obtain ⟨p10, hp10, hE⟩ := ob_bind hE
      suffices Jp10 : WM X o hn M G 0 0 63 10 [(0, .ref (o 26)), (1, .ref (o 27)), (2, .int x2), (3, .int y1), (4, .int y2), (6, .int y4), (7, .int z7)] [.int p10] by
        refine q_if_eq (pc := 34) hX 62 (by decide) dL_weekOf_34 (fun c => ?_) (fun c => ?_)
        · rw [if_pos c] at hp10
          refine q_iconst (pc := 62) hX (0) rfl dL_weekOf_62 ?_
          refine q_lo [0, 1, 2, 3, 4, 6, 7] rfl ?_
          cases hp10
          exact Jp10
        · rw [if_neg c] at hp10
          refine q_iload (pc := 37) hX 7 rfl dL_weekOf_37 ?_
          refine q_if_eq (pc := 39) hX 58 (by decide) dL_weekOf_39 (fun c => ?_) (fun c => ?_)
          · rw [if_pos c] at hp10
            refine q_iconst (pc := 58) hX (1) rfl dL_weekOf_58 ?_
            refine q_goto (pc := 59) hX 63 (by decide) dL_weekOf_59 ?_
            refine q_lo [0, 1, 2, 3, 4, 6, 7] rfl ?_
            cases hp10
            exact Jp10
          · rw [if_neg c] at hp10
            refine q_iload (pc := 42) hX 7 rfl dL_weekOf_42 ?_
            refine q_iconst (pc := 44) hX (1) rfl dL_weekOf_44 ?_
            refine q_icmp_ne (pc := 45) hX 62 (by decide) dL_weekOf_45 (fun c => ?_) (fun c => ?_)
            · rw [if_neg c] at hp10
              refine q_iconst (pc := 62) hX (0) rfl dL_weekOf_62 ?_
              refine q_lo [0, 1, 2, 3, 4, 6, 7] rfl ?_
              cases hp10
              exact Jp10
            · rw [if_pos c] at hp10
              refine q_aload_n (pc := 48) hX 0 rfl rfl dL_weekOf_48 ?_
              refine q_iload (pc := 49) hX 6 rfl dL_weekOf_49 ?_
              obtain ⟨v9, hv9, hp10⟩ := ob_bind hp10
              refine r_iald (pc := 51) (id := 26) (n := 21) hX (ar26 ha) (fun _ _ => rfl) hv9 dL_weekOf_51 ?_
              refine q_bipush (pc := 52) hX (15) (by decide) dL_weekOf_52 ?_
              refine q_irem (pc := 54) hX (by decide) dL_weekOf_54 ?_
              refine q_if_le (pc := 55) hX 62 (by decide) dL_weekOf_55 (fun c => ?_) (fun c => ?_)
              · rw [if_pos c] at hp10
                refine q_iconst (pc := 62) hX (0) rfl dL_weekOf_62 ?_
                refine q_lo [0, 1, 2, 3, 4, 6, 7] rfl ?_
                cases hp10
                exact Jp10
              · rw [if_neg c] at hp10
                refine q_iconst (pc := 58) hX (1) rfl dL_weekOf_58 ?_
                refine q_goto (pc := 59) hX 63 (by decide) dL_weekOf_59 ?_
                refine q_lo [0, 1, 2, 3, 4, 6, 7] rfl ?_
                cases hp10
                exact Jp10
      refine q_istore (pc := 63) (lo' := [(0, .ref (o 26)), (1, .ref (o 27)), (2, .int x2), (3, .int y1), (4, .int y2), (5, .int p10), (6, .int y4), (7, .int z7)]) hX [1, 2, 3, 4, 5, 0, 6, 7] (by decide) rfl dL_weekOf_63 ?_
      refine q_iload_n (pc := 65) hX 3 rfl rfl dL_weekOf_65 ?_
      refine q_aload_n (pc := 66) hX 0 rfl rfl dL_weekOf_66 ?_
      refine q_iload (pc := 67) hX 6 rfl dL_weekOf_67 ?_
      obtain ⟨v11, hv11, hE⟩ := ob_bind hE
      refine r_iald (pc := 69) (id := 26) (n := 21) hX (ar26 ha) (fun _ _ => rfl) hv11 dL_weekOf_69 ?_
      refine q_iadd (pc := 70) hX dL_weekOf_70 ?_
      refine q_nm (fun z12 hz12 => ?_)
      have hE := bnd_nm hz12 hE
      refine q_istore_n (pc := 71) (lo' := [(0, .ref (o 26)), (1, .ref (o 27)), (2, .int x2), (3, .int z12), (4, .int y2), (5, .int p10), (6, .int y4), (7, .int z7)]) hX [1, 2, 3, 0, 4, 5, 6, 7] rfl (by decide) rfl dL_weekOf_71 ?_
      refine q_iload (pc := 72) hX 4 rfl dL_weekOf_72 ?_
      refine q_aload_n (pc := 74) hX 1 rfl rfl dL_weekOf_74 ?_
      refine q_iload (pc := 75) hX 6 rfl dL_weekOf_75 ?_
      obtain ⟨v13, hv13, hE⟩ := ob_bind hE
      refine r_iald (pc := 77) (id := 27) (n := 21) hX (ar27 ha) (fun _ _ => rfl) hv13 dL_weekOf_77 ?_
      refine q_iadd (pc := 78) hX dL_weekOf_78 ?_
      refine q_nm (fun z14 hz14 => ?_)
      have hE := bnd_nm hz14 hE
      refine q_istore (pc := 79) (lo' := [(0, .ref (o 26)), (1, .ref (o 27)), (2, .int x2), (3, .int z12), (4, .int z14), (5, .int p10), (6, .int y4), (7, .int z7)]) hX [1, 2, 3, 4, 0, 5, 6, 7] (by decide) rfl dL_weekOf_79 ?_
      refine q_iload_n (pc := 81) hX 2 rfl rfl dL_weekOf_81 ?_
      refine q_istore (pc := 82) (lo' := [(0, .ref (o 26)), (1, .ref (o 27)), (2, .int x2), (3, .int z12), (4, .int z14), (5, .int p10), (6, .int y4), (7, .int z7), (8, .int x2)]) hX [1, 2, 3, 4, 5, 6, 7, 8, 0] (by decide) rfl dL_weekOf_82 ?_
      obtain ⟨p29, hp29, hE⟩ := ob_bind hE
      refine l_L_weekOf_84 hX hE0 ha FU _ _ p29 hp29 ?_
      obtain ⟨z30, hz30⟩ : ∃ z : Int32, z = y4 + 3 := ⟨_, rfl⟩
      have hE := bnd_nm hz30 hE
      refine q_iinc (pc := 171) (lo' := [(0, .ref (o 26)), (1, .ref (o 27)), (2, .int x2), (3, .int z12), (4, .int z14), (5, .int p29.1), (6, .int z30), (7, .int z7), (8, .int p29.2)]) hX 6 z30 [1, 2, 3, 4, 5, 6, 0, 7, 8] rfl (by rw [hz30]; rfl) (by decide) rfl dL_weekOf_171 ?_
      refine q_goto (pc := 174) hX 11 (by decide) dL_weekOf_174 ?_
      refine q_lo [0, 1, 2, 3, 4, 5, 6] rfl ?_
      exact ih _ _ _ _ p31 hE hx

set_option maxHeartbeats 4000000 in
theorem c_L_weekOf {Y : Lx} {o : Nat → Nat} {hn : Nat} {M : Mem} {G : Mel} {x2 : Int32} {rr : Int32} (ha : o 0 = 1) (hE : s_L_weekOf M x2 = some (rr)) : MI Y yL_weekOf cL_weekOf 10 (some .int) 0 0 0 0 [.ref (o 26), .ref (o 27), .int x2] o hn M G (.inl (some (.int rr))) M G := by
  refine MI.of (by decide +kernel) (Nat.le_of_ble_eq_true rfl) (fun X hY hX hE0 hR => ?_)
  change CxOK X RL cL_weekOf 10 0 0 0 0 (some .int) at hX
  show WM X o hn M G 0 0 0 10 [(0, .ref (o 26)), (1, .ref (o 27)), (2, .int x2)] []
  unfold s_L_weekOf at hE
  refine q_iconst (pc := 0) hX (0) rfl dL_weekOf_0 ?_
  refine q_istore_n (pc := 1) (lo' := [(0, .ref (o 26)), (1, .ref (o 27)), (2, .int x2), (3, .int 0)]) hX [1, 2, 3, 0] rfl (by decide) rfl dL_weekOf_1 ?_
  refine q_iconst (pc := 2) hX (0) rfl dL_weekOf_2 ?_
  refine q_istore (pc := 3) (lo' := [(0, .ref (o 26)), (1, .ref (o 27)), (2, .int x2), (3, .int 0), (4, .int 0)]) hX [1, 2, 3, 4, 0] (by decide) rfl dL_weekOf_3 ?_
  refine q_iconst (pc := 5) hX (1) rfl dL_weekOf_5 ?_
  refine q_istore (pc := 6) (lo' := [(0, .ref (o 26)), (1, .ref (o 27)), (2, .int x2), (3, .int 0), (4, .int 0), (5, .int 1)]) hX [1, 2, 3, 4, 5, 0] (by decide) rfl dL_weekOf_6 ?_
  refine q_iload_n (pc := 8) hX 2 rfl rfl dL_weekOf_8 ?_
  refine q_istore (pc := 9) (lo' := [(0, .ref (o 26)), (1, .ref (o 27)), (2, .int x2), (3, .int 0), (4, .int 0), (5, .int 1), (6, .int x2)]) hX [1, 2, 3, 4, 5, 6, 0] (by decide) rfl dL_weekOf_9 ?_
  obtain ⟨p31, hp31, hE⟩ := ob_bind hE
  refine l_L_weekOf_11 hX hE0 ha FU _ _ _ _ p31 hp31 ?_
  refine q_bipush (pc := 177) hX (15) (by decide) dL_weekOf_177 ?_
  refine q_iload (pc := 179) hX 4 rfl dL_weekOf_179 ?_
  refine q_imul (pc := 181) hX dL_weekOf_181 ?_
  refine q_iload_n (pc := 182) hX 3 rfl rfl dL_weekOf_182 ?_
  refine q_isub (pc := 183) hX dL_weekOf_183 ?_
  refine q_nm (fun z32 hz32 => ?_)
  have hE := bnd_nm hz32 hE
  refine q_istore (pc := 184) (lo' := [(0, .ref (o 26)), (1, .ref (o 27)), (2, .int x2), (3, .int p31.1), (4, .int p31.2.1), (5, .int p31.2.2.1), (6, .int z32)]) hX [1, 2, 3, 4, 5, 6, 0] (by decide) rfl dL_weekOf_184 ?_
  refine q_iload (pc := 186) hX 5 rfl dL_weekOf_186 ?_
  refine q_if_eq (pc := 188) hX 210 (by decide) dL_weekOf_188 (fun c => ?_) (fun c => ?_)
  · rw [if_pos c] at hE
    refine q_iconst (pc := 210) hX (-1) rfl dL_weekOf_210 ?_
    cases hE
    exact q_iret hX hR (by decide) (by decide) dL_weekOf_211
  · rw [if_neg c] at hE
    refine q_iload (pc := 191) hX 6 rfl dL_weekOf_191 ?_
    refine q_bipush (pc := 193) hX (7) (by decide) dL_weekOf_193 ?_
    refine q_icmp_gt (pc := 195) hX 210 (by decide) dL_weekOf_195 (fun c => ?_) (fun c => ?_)
    · rw [if_pos c] at hE
      refine q_iconst (pc := 210) hX (-1) rfl dL_weekOf_210 ?_
      cases hE
      exact q_iret hX hR (by decide) (by decide) dL_weekOf_211
    · rw [if_neg c] at hE
      refine q_iload (pc := 198) hX 6 rfl dL_weekOf_198 ?_
      refine q_bipush (pc := 200) hX (-7) (by decide) dL_weekOf_200 ?_
      refine q_icmp_lt (pc := 202) hX 210 (by decide) dL_weekOf_202 (fun c => ?_) (fun c => ?_)
      · rw [if_pos c] at hE
        refine q_iconst (pc := 210) hX (-1) rfl dL_weekOf_210 ?_
        cases hE
        exact q_iret hX hR (by decide) (by decide) dL_weekOf_211
      · rw [if_neg c] at hE
        refine q_iload (pc := 205) hX 4 rfl dL_weekOf_205 ?_
        refine q_goto (pc := 207) hX 211 (by decide) dL_weekOf_207 ?_
        cases hE
        exact q_iret hX hR (by decide) (by decide) dL_weekOf_211

set_option maxHeartbeats 4000000 in
theorem l_L_isPaid_108 {X : Cx} (hX : CxOK X RL cL_isPaid 14 8 187 0 0 (some .boolean)) (hE0 : CxE X []) {o : Nat → Nat} {hn : Nat} {G : Mel} (ha : o 0 = 1) : ∀ (f : Nat) (y10 : Int32) (y11 : Int32) (M12 : Mem) (p22 : Int32 × Int32 × Mem), L_L_isPaid_108 hn f y10 y11 M12 = some p22 → WM X o hn p22.2.2 G 0 0 203 14 [(0, .ref (o 28)), (1, .ref (o 26)), (10, .int p22.1), (11, .int p22.2.1)] [] → WM X o hn M12 G 0 0 108 14 [(0, .ref (o 28)), (1, .ref (o 26)), (10, .int y10), (11, .int y11)] [] := by
  intro f
  induction f with
  | zero => intro y10 y11 M12 p22 hE; simp [L_L_isPaid_108] at hE
  | succ f ih =>
    intro y10 y11 M12 p22 hE hx
    rw [L_L_isPaid_108] at hE
    refine q_iload (pc := 108) hX 3 rfl dL_isPaid_108 ?_
    refine q_bipush (pc := 110) hX (7) (by decide) dL_isPaid_110 ?_
    refine q_icmp_ge (pc := 112) hX 203 (by decide) dL_isPaid_112 (fun c => ?_) (fun c => ?_)
    · rw [if_pos c] at hE
      cases hE
      exact hx
    · rw [if_neg c] at hE
      refine q_aload_n (pc := 115) hX 0 rfl rfl dL_isPaid_115 ?_
      refine q_iconst (pc := 116) hX (0) rfl dL_isPaid_116 ?_
      refine q_iload (pc := 117) hX 3 rfl dL_isPaid_117 ?_
      obtain ⟨r13, hr13, hE⟩ := ob_bind hE
      have hkr13 : r13.1 = 0 := by
        by_cases h9 : r13.1 = 0
        · exact h9
        · rw [if_pos h9] at hE
          cases hE
      rw [if_neg (fun h => h hkr13)] at hE
      refine q_callV (pc := 119) (id := 28) (As := [.int 0, .int y11]) (rest := []) (rv := some (.int r13.2.1)) (st' := [.int r13.2.1]) hX (c_X6_workedOn (thr_z hr13 hkr13)) (vl_L_34) (lt46 (by decide)) rfl rfl rfl pd_yX6_workedOn rfl ⟨by decide, by decide⟩ ⟨Nat.le_of_ble_eq_true rfl, Nat.le_of_ble_eq_true rfl⟩ rfl (Nat.le_of_ble_eq_true rfl) rfl dL_isPaid_119 ?_
      refine q_istore (pc := 122) (lo' := [(0, .ref (o 28)), (1, .ref (o 26)), (10, .int y10), (11, .int y11), (12, .int r13.2.1)]) hX [1, 2, 3, 4, 0] (by decide) rfl dL_isPaid_122 ?_
      refine q_aload_n (pc := 124) hX 1 rfl rfl dL_isPaid_124 ?_
      refine q_iconst (pc := 125) hX (3) rfl dL_isPaid_125 ?_
      refine q_iload (pc := 126) hX 3 rfl dL_isPaid_126 ?_
      refine q_imul (pc := 128) hX dL_isPaid_128 ?_
      obtain ⟨v14, hv14, hE⟩ := ob_bind hE
      refine r_iald (pc := 129) (id := 26) (n := 21) hX (ar26 ha) (fun _ _ => rfl) hv14 dL_isPaid_129 ?_
      refine q_aload_n (pc := 130) hX 1 rfl rfl dL_isPaid_130 ?_
      refine q_iconst (pc := 131) hX (3) rfl dL_isPaid_131 ?_
      refine q_iload (pc := 132) hX 3 rfl dL_isPaid_132 ?_
      refine q_imul (pc := 134) hX dL_isPaid_134 ?_
      refine q_iconst (pc := 135) hX (1) rfl dL_isPaid_135 ?_
      refine q_iadd (pc := 136) hX dL_isPaid_136 ?_
      obtain ⟨v15, hv15, hE⟩ := ob_bind hE
      refine r_iald (pc := 137) (id := 26) (n := 21) hX (ar26 ha) (fun _ _ => rfl) hv15 dL_isPaid_137 ?_
      refine q_iadd (pc := 138) hX dL_isPaid_138 ?_
      refine q_nm (fun z16 hz16 => ?_)
      have hE := bnd_nm hz16 hE
      refine q_istore (pc := 139) (lo' := [(0, .ref (o 28)), (1, .ref (o 26)), (10, .int y10), (11, .int y11), (12, .int r13.2.1), (13, .int z16)]) hX [1, 2, 3, 4, 5, 0] (by decide) rfl dL_isPaid_139 ?_
      refine q_iload (pc := 141) hX 2 rfl dL_isPaid_141 ?_
      obtain ⟨p20, hp20, hE⟩ := ob_bind hE
      suffices Jp20 : WM X o hn r13.2.2 G 0 0 195 14 [(0, .ref (o 28)), (1, .ref (o 26)), (11, .int y11)] [.int p20] by
        refine q_if_eq (pc := 143) hX 194 (by decide) dL_isPaid_143 (fun c => ?_) (fun c => ?_)
        · rw [if_pos c] at hp20
          refine q_iconst (pc := 194) hX (0) rfl dL_isPaid_194 ?_
          refine q_lo [0, 1, 3] rfl ?_
          cases hp20
          exact Jp20
        · rw [if_neg c] at hp20
          refine q_iload (pc := 146) hX 5 rfl dL_isPaid_146 ?_
          refine q_aload_n (pc := 148) hX 1 rfl rfl dL_isPaid_148 ?_
          refine q_iconst (pc := 149) hX (3) rfl dL_isPaid_149 ?_
          refine q_iload (pc := 150) hX 3 rfl dL_isPaid_150 ?_
          refine q_imul (pc := 152) hX dL_isPaid_152 ?_
          refine q_iconst (pc := 153) hX (2) rfl dL_isPaid_153 ?_
          refine q_iadd (pc := 154) hX dL_isPaid_154 ?_
          obtain ⟨v18, hv18, hp20⟩ := ob_bind hp20
          refine r_iald (pc := 155) (id := 26) (n := 21) hX (ar26 ha) (fun _ _ => rfl) hv18 dL_isPaid_155 ?_
          refine q_iadd (pc := 156) hX dL_isPaid_156 ?_
          refine q_iload (pc := 157) hX 4 rfl dL_isPaid_157 ?_
          refine q_icmp_gt (pc := 159) hX 194 (by decide) dL_isPaid_159 (fun c => ?_) (fun c => ?_)
          · rw [if_pos c] at hp20
            refine q_iconst (pc := 194) hX (0) rfl dL_isPaid_194 ?_
            refine q_lo [0, 1, 3] rfl ?_
            cases hp20
            exact Jp20
          · rw [if_neg c] at hp20
            refine q_iload (pc := 162) hX 4 rfl dL_isPaid_162 ?_
            refine q_sipush (pc := 164) hX (1440) (by decide) dL_isPaid_164 ?_
            refine q_icmp_gt (pc := 167) hX 194 (by decide) dL_isPaid_167 (fun c => ?_) (fun c => ?_)
            · rw [if_pos c] at hp20
              refine q_iconst (pc := 194) hX (0) rfl dL_isPaid_194 ?_
              refine q_lo [0, 1, 3] rfl ?_
              cases hp20
              exact Jp20
            · rw [if_neg c] at hp20
              refine q_aload_n (pc := 170) hX 1 rfl rfl dL_isPaid_170 ?_
              refine q_iconst (pc := 171) hX (3) rfl dL_isPaid_171 ?_
              refine q_iload (pc := 172) hX 3 rfl dL_isPaid_172 ?_
              refine q_imul (pc := 174) hX dL_isPaid_174 ?_
              obtain ⟨v19, hv19, hp20⟩ := ob_bind hp20
              refine r_iald (pc := 175) (id := 26) (n := 21) hX (ar26 ha) (fun _ _ => rfl) hv19 dL_isPaid_175 ?_
              refine q_sipush (pc := 176) hX (480) (by decide) dL_isPaid_176 ?_
              refine q_icmp_gt (pc := 179) hX 194 (by decide) dL_isPaid_179 (fun c => ?_) (fun c => ?_)
              · rw [if_pos c] at hp20
                refine q_iconst (pc := 194) hX (0) rfl dL_isPaid_194 ?_
                refine q_lo [0, 1, 3] rfl ?_
                cases hp20
                exact Jp20
              · rw [if_neg c] at hp20
                refine q_iload (pc := 182) hX 5 rfl dL_isPaid_182 ?_
                refine q_sipush (pc := 184) hX (720) (by decide) dL_isPaid_184 ?_
                refine q_icmp_gt (pc := 187) hX 194 (by decide) dL_isPaid_187 (fun c => ?_) (fun c => ?_)
                · rw [if_pos c] at hp20
                  refine q_iconst (pc := 194) hX (0) rfl dL_isPaid_194 ?_
                  refine q_lo [0, 1, 3] rfl ?_
                  cases hp20
                  exact Jp20
                · rw [if_neg c] at hp20
                  refine q_iconst (pc := 190) hX (1) rfl dL_isPaid_190 ?_
                  refine q_goto (pc := 191) hX 195 (by decide) dL_isPaid_191 ?_
                  refine q_lo [0, 1, 3] rfl ?_
                  cases hp20
                  exact Jp20
      refine q_istore (pc := 195) (lo' := [(0, .ref (o 28)), (1, .ref (o 26)), (10, .int p20), (11, .int y11)]) hX [1, 2, 0, 3] (by decide) rfl dL_isPaid_195 ?_
      obtain ⟨z21, hz21⟩ : ∃ z : Int32, z = y11 + 1 := ⟨_, rfl⟩
      have hE := bnd_nm hz21 hE
      refine q_iinc (pc := 197) (lo' := [(0, .ref (o 28)), (1, .ref (o 26)), (10, .int p20), (11, .int z21)]) hX 3 z21 [1, 2, 3, 0] rfl (by rw [hz21]; rfl) (by decide) rfl dL_isPaid_197 ?_
      refine q_goto (pc := 200) hX 108 (by decide) dL_isPaid_200 ?_
      exact ih _ _ _ p22 hE hx

set_option maxHeartbeats 4000000 in
theorem c_L_isPaid {Y : Lx} {o : Nat → Nat} {hn : Nat} {M : Mem} {G : Mel} {x3 : Int32} {x4 : Int32} {rr : Int32} {Mr : Mem} (ha : o 0 = 1) (hE : s_L_isPaid M hn x3 x4 = some (rr, Mr)) : MI Y yL_isPaid cL_isPaid 14 (some .boolean) 8 187 0 0 [.ref (o 28), .ref (o 26), .ref (o 27), .int x3, .int x4] o hn M G (.inl (some (.int rr))) Mr G := by
  refine MI.of (by decide +kernel) (Nat.le_of_ble_eq_true rfl) (fun X hY hX hE0 hR => ?_)
  change CxOK X RL cL_isPaid 14 8 187 0 0 (some .boolean) at hX
  show WM X o hn M G 0 0 0 14 [(0, .ref (o 28)), (1, .ref (o 26)), (2, .ref (o 27)), (3, .int x3), (4, .int x4)] []
  unfold s_L_isPaid at hE
  refine q_aload_n (pc := 0) hX 0 rfl rfl dL_isPaid_0 ?_
  refine q_aload_n (pc := 1) hX 1 rfl rfl dL_isPaid_1 ?_
  refine q_aload_n (pc := 2) hX 2 rfl rfl dL_isPaid_2 ?_
  obtain ⟨r1, hr1, hE⟩ := ob_bind hE
  refine q_callS (pc := 3) (As := [.ref (o 28), .ref (o 26), .ref (o 27)]) (rest := []) (rv := none) (st' := []) hX (c_L_reads ha hr1) (sl_L_17) pd_yL_reads rfl ⟨by decide, by decide⟩ ⟨Nat.le_of_ble_eq_true rfl, Nat.le_of_ble_eq_true rfl⟩ rfl (Nat.le_of_ble_eq_true rfl) rfl dL_isPaid_3 ?_
  refine q_aload_n (pc := 6) hX 1 rfl rfl dL_isPaid_6 ?_
  refine q_aload_n (pc := 7) hX 2 rfl rfl dL_isPaid_7 ?_
  refine q_iconst (pc := 8) hX (0) rfl dL_isPaid_8 ?_
  obtain ⟨r2, hr2, hE⟩ := ob_bind hE
  refine q_callS (pc := 9) (As := [.ref (o 26), .ref (o 27), .int 0]) (rest := []) (rv := some (.int r2)) (st' := [.int r2]) hX (c_L_weekOf ha hr2) (sl_L_23) pd_yL_weekOf rfl ⟨by decide, by decide⟩ ⟨Nat.le_of_ble_eq_true rfl, Nat.le_of_ble_eq_true rfl⟩ rfl (Nat.le_of_ble_eq_true rfl) rfl dL_isPaid_9 ?_
  refine q_istore (pc := 12) (lo' := [(0, .ref (o 28)), (1, .ref (o 26)), (2, .ref (o 27)), (3, .int x3), (4, .int x4), (5, .int r2)]) hX [1, 2, 3, 4, 5, 0] (by decide) rfl dL_isPaid_12 ?_
  refine q_aload_n (pc := 14) hX 1 rfl rfl dL_isPaid_14 ?_
  refine q_aload_n (pc := 15) hX 2 rfl rfl dL_isPaid_15 ?_
  refine q_iconst (pc := 16) hX (1) rfl dL_isPaid_16 ?_
  obtain ⟨r3, hr3, hE⟩ := ob_bind hE
  refine q_callS (pc := 17) (As := [.ref (o 26), .ref (o 27), .int 1]) (rest := []) (rv := some (.int r3)) (st' := [.int r3]) hX (c_L_weekOf ha hr3) (sl_L_23) pd_yL_weekOf rfl ⟨by decide, by decide⟩ ⟨Nat.le_of_ble_eq_true rfl, Nat.le_of_ble_eq_true rfl⟩ rfl (Nat.le_of_ble_eq_true rfl) rfl dL_isPaid_17 ?_
  refine q_istore (pc := 20) (lo' := [(0, .ref (o 28)), (1, .ref (o 26)), (2, .ref (o 27)), (3, .int x3), (4, .int x4), (5, .int r2), (6, .int r3)]) hX [1, 2, 3, 4, 5, 6, 0] (by decide) rfl dL_isPaid_20 ?_
  refine q_aload_n (pc := 22) hX 1 rfl rfl dL_isPaid_22 ?_
  refine q_aload_n (pc := 23) hX 2 rfl rfl dL_isPaid_23 ?_
  refine q_iconst (pc := 24) hX (2) rfl dL_isPaid_24 ?_
  obtain ⟨r4, hr4, hE⟩ := ob_bind hE
  refine q_callS (pc := 25) (As := [.ref (o 26), .ref (o 27), .int 2]) (rest := []) (rv := some (.int r4)) (st' := [.int r4]) hX (c_L_weekOf ha hr4) (sl_L_23) pd_yL_weekOf rfl ⟨by decide, by decide⟩ ⟨Nat.le_of_ble_eq_true rfl, Nat.le_of_ble_eq_true rfl⟩ rfl (Nat.le_of_ble_eq_true rfl) rfl dL_isPaid_25 ?_
  refine q_istore (pc := 28) (lo' := [(0, .ref (o 28)), (1, .ref (o 26)), (2, .ref (o 27)), (3, .int x3), (4, .int x4), (5, .int r2), (6, .int r3), (7, .int r4)]) hX [1, 2, 3, 4, 5, 6, 7, 0] (by decide) rfl dL_isPaid_28 ?_
  refine q_iload_n (pc := 30) hX 3 rfl rfl dL_isPaid_30 ?_
  refine q_iconst (pc := 31) hX (2) rfl dL_isPaid_31 ?_
  refine q_iload (pc := 32) hX 5 rfl dL_isPaid_32 ?_
  refine q_imul (pc := 34) hX dL_isPaid_34 ?_
  refine q_iconst (pc := 35) hX (3) rfl dL_isPaid_35 ?_
  refine q_iload (pc := 36) hX 6 rfl dL_isPaid_36 ?_
  refine q_imul (pc := 38) hX dL_isPaid_38 ?_
  refine q_iadd (pc := 39) hX dL_isPaid_39 ?_
  refine q_iconst (pc := 40) hX (4) rfl dL_isPaid_40 ?_
  refine q_iload (pc := 41) hX 7 rfl dL_isPaid_41 ?_
  refine q_imul (pc := 43) hX dL_isPaid_43 ?_
  refine q_iadd (pc := 44) hX dL_isPaid_44 ?_
  refine q_imul (pc := 45) hX dL_isPaid_45 ?_
  refine q_iconst (pc := 46) hX (4) rfl dL_isPaid_46 ?_
  refine q_iadd (pc := 47) hX dL_isPaid_47 ?_
  refine q_bipush (pc := 48) hX (8) (by decide) dL_isPaid_48 ?_
  refine q_idiv (pc := 50) hX (by decide) dL_isPaid_50 ?_
  refine q_nm (fun z5 hz5 => ?_)
  have hE := bnd_nm hz5 hE
  refine q_istore (pc := 51) (lo' := [(0, .ref (o 28)), (1, .ref (o 26)), (2, .ref (o 27)), (3, .int x3), (4, .int x4), (5, .int r2), (6, .int r3), (7, .int r4), (8, .int z5)]) hX [1, 2, 3, 4, 5, 6, 7, 8, 0] (by decide) rfl dL_isPaid_51 ?_
  refine q_aload_n (pc := 53) hX 0 rfl rfl dL_isPaid_53 ?_
  refine q_iconst (pc := 54) hX (0) rfl dL_isPaid_54 ?_
  obtain ⟨r6, hr6, hE⟩ := ob_bind hE
  have hkr6 : r6.1 = 0 := by
    by_cases h9 : r6.1 = 0
    · exact h9
    · rw [if_pos h9] at hE
      cases hE
  rw [if_neg (fun h => h hkr6)] at hE
  refine q_callV (pc := 55) (id := 28) (As := [.int 0]) (rest := []) (rv := some (.int r6.2.1)) (st' := [.int r6.2.1]) hX (c_X6_premiumPay (thr_z hr6 hkr6)) (vl_L_27) (lt46 (by decide)) rfl rfl rfl pd_yX6_premiumPay rfl ⟨by decide, by decide⟩ ⟨Nat.le_of_ble_eq_true rfl, Nat.le_of_ble_eq_true rfl⟩ rfl (Nat.le_of_ble_eq_true rfl) rfl dL_isPaid_55 ?_
  refine q_istore (pc := 58) (lo' := [(0, .ref (o 28)), (1, .ref (o 26)), (2, .ref (o 27)), (3, .int x3), (4, .int x4), (5, .int r2), (6, .int r3), (7, .int r4), (8, .int z5), (9, .int r6.2.1)]) hX [1, 2, 3, 4, 5, 6, 7, 8, 9, 0] (by decide) rfl dL_isPaid_58 ?_
  refine q_iload (pc := 60) hX 5 rfl dL_isPaid_60 ?_
  obtain ⟨p9, hp9, hE⟩ := ob_bind hE
  suffices Jp9 : WM X o hn p9.2 G 0 0 103 14 [(0, .ref (o 28)), (1, .ref (o 26))] [.int p9.1] by
    refine q_if_lt (pc := 62) hX 102 (by decide) dL_isPaid_62 (fun c => ?_) (fun c => ?_)
    · rw [if_pos c] at hp9
      refine q_iconst (pc := 102) hX (0) rfl dL_isPaid_102 ?_
      refine q_lo [0, 1] rfl ?_
      cases hp9
      exact Jp9
    · rw [if_neg c] at hp9
      refine q_iload (pc := 65) hX 6 rfl dL_isPaid_65 ?_
      refine q_if_lt (pc := 67) hX 102 (by decide) dL_isPaid_67 (fun c => ?_) (fun c => ?_)
      · rw [if_pos c] at hp9
        refine q_iconst (pc := 102) hX (0) rfl dL_isPaid_102 ?_
        refine q_lo [0, 1] rfl ?_
        cases hp9
        exact Jp9
      · rw [if_neg c] at hp9
        refine q_iload (pc := 70) hX 7 rfl dL_isPaid_70 ?_
        refine q_if_lt (pc := 72) hX 102 (by decide) dL_isPaid_72 (fun c => ?_) (fun c => ?_)
        · rw [if_pos c] at hp9
          refine q_iconst (pc := 102) hX (0) rfl dL_isPaid_102 ?_
          refine q_lo [0, 1] rfl ?_
          cases hp9
          exact Jp9
        · rw [if_neg c] at hp9
          refine q_aload_n (pc := 75) hX 0 rfl rfl dL_isPaid_75 ?_
          refine q_iconst (pc := 76) hX (0) rfl dL_isPaid_76 ?_
          obtain ⟨r8, hr8, hp9⟩ := ob_bind hp9
          have hkr8 : r8.1 = 0 := by
            by_cases h9 : r8.1 = 0
            · exact h9
            · rw [if_pos h9] at hp9
              cases hp9
          rw [if_neg (fun h => h hkr8)] at hp9
          refine q_callV (pc := 77) (id := 28) (As := [.int 0]) (rest := []) (rv := some (.int r8.2.1)) (st' := [.int r8.2.1]) hX (c_X6_pay (thr_z hr8 hkr8)) (vl_L_31) (lt46 (by decide)) rfl rfl rfl pd_yX6_pay rfl ⟨by decide, by decide⟩ ⟨Nat.le_of_ble_eq_true rfl, Nat.le_of_ble_eq_true rfl⟩ rfl (Nat.le_of_ble_eq_true rfl) rfl dL_isPaid_77 ?_
          refine q_iload (pc := 80) hX 8 rfl dL_isPaid_80 ?_
          refine q_iload (pc := 82) hX 9 rfl dL_isPaid_82 ?_
          refine q_iadd (pc := 84) hX dL_isPaid_84 ?_
          refine q_icmp_ne (pc := 85) hX 102 (by decide) dL_isPaid_85 (fun c => ?_) (fun c => ?_)
          · rw [if_neg c] at hp9
            refine q_iconst (pc := 102) hX (0) rfl dL_isPaid_102 ?_
            refine q_lo [0, 1] rfl ?_
            cases hp9
            exact Jp9
          · rw [if_pos c] at hp9
            refine q_iload (pc := 88) hX 4 rfl dL_isPaid_88 ?_
            refine q_if_ne (pc := 90) hX 98 (by decide) dL_isPaid_90 (fun c => ?_) (fun c => ?_)
            · rw [if_neg c] at hp9
              refine q_iconst (pc := 98) hX (1) rfl dL_isPaid_98 ?_
              refine q_goto (pc := 99) hX 103 (by decide) dL_isPaid_99 ?_
              refine q_lo [0, 1] rfl ?_
              cases hp9
              exact Jp9
            · rw [if_pos c] at hp9
              refine q_iload (pc := 93) hX 9 rfl dL_isPaid_93 ?_
              refine q_if_ne (pc := 95) hX 102 (by decide) dL_isPaid_95 (fun c => ?_) (fun c => ?_)
              · rw [if_neg c] at hp9
                refine q_iconst (pc := 102) hX (0) rfl dL_isPaid_102 ?_
                refine q_lo [0, 1] rfl ?_
                cases hp9
                exact Jp9
              · rw [if_pos c] at hp9
                refine q_iconst (pc := 98) hX (1) rfl dL_isPaid_98 ?_
                refine q_goto (pc := 99) hX 103 (by decide) dL_isPaid_99 ?_
                refine q_lo [0, 1] rfl ?_
                cases hp9
                exact Jp9
  refine q_istore (pc := 103) (lo' := [(0, .ref (o 28)), (1, .ref (o 26)), (10, .int p9.1)]) hX [1, 2, 0] (by decide) rfl dL_isPaid_103 ?_
  refine q_iconst (pc := 105) hX (0) rfl dL_isPaid_105 ?_
  refine q_istore (pc := 106) (lo' := [(0, .ref (o 28)), (1, .ref (o 26)), (10, .int p9.1), (11, .int 0)]) hX [1, 2, 3, 0] (by decide) rfl dL_isPaid_106 ?_
  obtain ⟨p22, hp22, hE⟩ := ob_bind hE
  refine l_L_isPaid_108 hX hE0 ha FU _ _ _ p22 hp22 ?_
  refine q_iload (pc := 203) hX 2 rfl dL_isPaid_203 ?_
  obtain ⟨v23, hv23, hE⟩ := ob_bind hE
  obtain ⟨hqv23, hbv23⟩ := bchk_ok hv23
  rw [hqv23]
  cases hE
  exact q_zret hX hbv23 hR (by decide) (by decide) dL_isPaid_205

set_option maxHeartbeats 4000000 in
theorem c_L_isEmpty {Y : Lx} {o : Nat → Nat} {hn : Nat} {M : Mem} {G : Mel} {x1 : Int32} {rr : Int32} {Mr : Mem} (hE : s_L_isEmpty M hn x1 = some (rr, Mr)) : MI Y yL_isEmpty cL_isEmpty 2 (some .boolean) 7 162 0 0 [.ref (o 28), .int x1] o hn M G (.inl (some (.int rr))) Mr G := by
  refine MI.of (by decide +kernel) (Nat.le_of_ble_eq_true rfl) (fun X hY hX hE0 hR => ?_)
  change CxOK X RL cL_isEmpty 2 7 162 0 0 (some .boolean) at hX
  show WM X o hn M G 0 0 0 2 [(0, .ref (o 28)), (1, .int x1)] []
  unfold s_L_isEmpty at hE
  refine q_aload_n (pc := 0) hX 0 rfl rfl dL_isEmpty_0 ?_
  refine q_iload_n (pc := 1) hX 1 rfl rfl dL_isEmpty_1 ?_
  obtain ⟨r1, hr1, hE⟩ := ob_bind hE
  have hkr1 : r1.1 = 0 := by
    by_cases h9 : r1.1 = 0
    · exact h9
    · rw [if_pos h9] at hE
      cases hE
  rw [if_neg (fun h => h hkr1)] at hE
  refine q_callV (pc := 2) (id := 28) (As := [.int x1]) (rest := []) (rv := some (.int r1.2.1)) (st' := [.int r1.2.1]) hX (c_X6_pay (thr_z hr1 hkr1)) (vl_L_31) (lt46 (by decide)) rfl rfl rfl pd_yX6_pay rfl ⟨by decide, by decide⟩ ⟨Nat.le_of_ble_eq_true rfl, Nat.le_of_ble_eq_true rfl⟩ rfl (Nat.le_of_ble_eq_true rfl) rfl dL_isEmpty_2 ?_
  refine q_if_ne (pc := 5) hX 52 (by decide) dL_isEmpty_5 (fun c => ?_) (fun c => ?_)
  · rw [if_neg c] at hE
    refine q_iconst (pc := 52) hX (0) rfl dL_isEmpty_52 ?_
    cases hE
    exact q_zret hX (Or.inl rfl) hR (by decide) (by decide) dL_isEmpty_53
  · rw [if_pos c] at hE
    refine q_aload_n (pc := 8) hX 0 rfl rfl dL_isEmpty_8 ?_
    refine q_iload_n (pc := 9) hX 1 rfl rfl dL_isEmpty_9 ?_
    obtain ⟨r2, hr2, hE⟩ := ob_bind hE
    have hkr2 : r2.1 = 0 := by
      by_cases h9 : r2.1 = 0
      · exact h9
      · rw [if_pos h9] at hE
        cases hE
    rw [if_neg (fun h => h hkr2)] at hE
    refine q_callV (pc := 10) (id := 28) (As := [.int x1]) (rest := []) (rv := some (.int r2.2.1)) (st' := [.int r2.2.1]) hX (c_X6_shifts (thr_z hr2 hkr2)) (vl_L_38) (lt46 (by decide)) rfl rfl rfl pd_yX6_shifts rfl ⟨by decide, by decide⟩ ⟨Nat.le_of_ble_eq_true rfl, Nat.le_of_ble_eq_true rfl⟩ rfl (Nat.le_of_ble_eq_true rfl) rfl dL_isEmpty_10 ?_
    refine q_if_ne (pc := 13) hX 52 (by decide) dL_isEmpty_13 (fun c => ?_) (fun c => ?_)
    · rw [if_neg c] at hE
      refine q_iconst (pc := 52) hX (0) rfl dL_isEmpty_52 ?_
      cases hE
      exact q_zret hX (Or.inl rfl) hR (by decide) (by decide) dL_isEmpty_53
    · rw [if_pos c] at hE
      refine q_aload_n (pc := 16) hX 0 rfl rfl dL_isEmpty_16 ?_
      refine q_iload_n (pc := 17) hX 1 rfl rfl dL_isEmpty_17 ?_
      obtain ⟨r3, hr3, hE⟩ := ob_bind hE
      have hkr3 : r3.1 = 0 := by
        by_cases h9 : r3.1 = 0
        · exact h9
        · rw [if_pos h9] at hE
          cases hE
      rw [if_neg (fun h => h hkr3)] at hE
      refine q_callV (pc := 18) (id := 28) (As := [.int x1]) (rest := []) (rv := some (.int r3.2.1)) (st' := [.int r3.2.1]) hX (c_X6_stretches (thr_z hr3 hkr3)) (vl_L_41) (lt46 (by decide)) rfl rfl rfl pd_yX6_stretches rfl ⟨by decide, by decide⟩ ⟨Nat.le_of_ble_eq_true rfl, Nat.le_of_ble_eq_true rfl⟩ rfl (Nat.le_of_ble_eq_true rfl) rfl dL_isEmpty_18 ?_
      refine q_if_ne (pc := 21) hX 52 (by decide) dL_isEmpty_21 (fun c => ?_) (fun c => ?_)
      · rw [if_neg c] at hE
        refine q_iconst (pc := 52) hX (0) rfl dL_isEmpty_52 ?_
        cases hE
        exact q_zret hX (Or.inl rfl) hR (by decide) (by decide) dL_isEmpty_53
      · rw [if_pos c] at hE
        refine q_aload_n (pc := 24) hX 0 rfl rfl dL_isEmpty_24 ?_
        refine q_iload_n (pc := 25) hX 1 rfl rfl dL_isEmpty_25 ?_
        obtain ⟨r4, hr4, hE⟩ := ob_bind hE
        have hkr4 : r4.1 = 0 := by
          by_cases h9 : r4.1 = 0
          · exact h9
          · rw [if_pos h9] at hE
            cases hE
        rw [if_neg (fun h => h hkr4)] at hE
        refine q_callV (pc := 26) (id := 28) (As := [.int x1]) (rest := []) (rv := some (.int r4.2.1)) (st' := [.int r4.2.1]) hX (c_X6_overlap (thr_z hr4 hkr4)) (vl_L_44) (lt46 (by decide)) rfl rfl rfl pd_yX6_overlap rfl ⟨by decide, by decide⟩ ⟨Nat.le_of_ble_eq_true rfl, Nat.le_of_ble_eq_true rfl⟩ rfl (Nat.le_of_ble_eq_true rfl) rfl dL_isEmpty_26 ?_
        refine q_if_ne (pc := 29) hX 52 (by decide) dL_isEmpty_29 (fun c => ?_) (fun c => ?_)
        · rw [if_neg c] at hE
          refine q_iconst (pc := 52) hX (0) rfl dL_isEmpty_52 ?_
          cases hE
          exact q_zret hX (Or.inl rfl) hR (by decide) (by decide) dL_isEmpty_53
        · rw [if_pos c] at hE
          refine q_aload_n (pc := 32) hX 0 rfl rfl dL_isEmpty_32 ?_
          refine q_iload_n (pc := 33) hX 1 rfl rfl dL_isEmpty_33 ?_
          obtain ⟨r5, hr5, hE⟩ := ob_bind hE
          have hkr5 : r5.1 = 0 := by
            by_cases h9 : r5.1 = 0
            · exact h9
            · rw [if_pos h9] at hE
              cases hE
          rw [if_neg (fun h => h hkr5)] at hE
          refine q_callV (pc := 34) (id := 28) (As := [.int x1]) (rest := []) (rv := some (.int r5.2.1)) (st' := [.int r5.2.1]) hX (c_X6_longestStretch (thr_z hr5 hkr5)) (vl_L_47) (lt46 (by decide)) rfl rfl rfl pd_yX6_longestStretch rfl ⟨by decide, by decide⟩ ⟨Nat.le_of_ble_eq_true rfl, Nat.le_of_ble_eq_true rfl⟩ rfl (Nat.le_of_ble_eq_true rfl) rfl dL_isEmpty_34 ?_
          refine q_if_ne (pc := 37) hX 52 (by decide) dL_isEmpty_37 (fun c => ?_) (fun c => ?_)
          · rw [if_neg c] at hE
            refine q_iconst (pc := 52) hX (0) rfl dL_isEmpty_52 ?_
            cases hE
            exact q_zret hX (Or.inl rfl) hR (by decide) (by decide) dL_isEmpty_53
          · rw [if_pos c] at hE
            refine q_aload_n (pc := 40) hX 0 rfl rfl dL_isEmpty_40 ?_
            refine q_iload_n (pc := 41) hX 1 rfl rfl dL_isEmpty_41 ?_
            obtain ⟨r6, hr6, hE⟩ := ob_bind hE
            have hkr6 : r6.1 = 0 := by
              by_cases h9 : r6.1 = 0
              · exact h9
              · rw [if_pos h9] at hE
                cases hE
            rw [if_neg (fun h => h hkr6)] at hE
            refine q_callV (pc := 42) (id := 28) (As := [.int x1]) (rest := []) (rv := some (.int r6.2.1)) (st' := [.int r6.2.1]) hX (c_X6_repairedShifts (thr_z hr6 hkr6)) (vl_L_50) (lt46 (by decide)) rfl rfl rfl pd_yX6_repairedShifts rfl ⟨by decide, by decide⟩ ⟨Nat.le_of_ble_eq_true rfl, Nat.le_of_ble_eq_true rfl⟩ rfl (Nat.le_of_ble_eq_true rfl) rfl dL_isEmpty_42 ?_
            refine q_if_ne (pc := 45) hX 52 (by decide) dL_isEmpty_45 (fun c => ?_) (fun c => ?_)
            · rw [if_neg c] at hE
              refine q_iconst (pc := 52) hX (0) rfl dL_isEmpty_52 ?_
              cases hE
              exact q_zret hX (Or.inl rfl) hR (by decide) (by decide) dL_isEmpty_53
            · rw [if_pos c] at hE
              refine q_iconst (pc := 48) hX (1) rfl dL_isEmpty_48 ?_
              refine q_goto (pc := 49) hX 53 (by decide) dL_isEmpty_49 ?_
              cases hE
              exact q_zret hX (Or.inr rfl) hR (by decide) (by decide) dL_isEmpty_53

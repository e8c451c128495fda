set_option maxHeartbeats 4000000 in
theorem l_L_law_41 {X : Cx} (hX : CxOK X RL cL_law 16 12 454 600104 7301314 (some .boolean)) {o : Nat → Nat} {hn : Nat} {G : Mel} {x2 : Int32} {r2 : Int32} {b : Nat} {L : Nat} {xs : Nat → Int32} (hS : ScrOK X b L xs) : ∀ (f : Nat) (y3 : Int32) (M4 : Mem) (p15 : Int32 × Mem), L_L_law_41 L xs r2 f y3 M4 = some p15 → WM X o hn p15.2 G 600102 7301272 126 16 [(0, .ref b), (1, .ref (o 28)), (2, .int x2), (3, .int r2), (4, .int p15.1)] [] → WM X o hn M4 G 600102 7301272 41 16 [(0, .ref b), (1, .ref (o 28)), (2, .int x2), (3, .int r2), (4, .int y3)] [] := by
  intro f
  induction f with
  | zero => intro y3 M4 p15 hE; simp [L_L_law_41] at hE
  | succ f ih =>
    intro y3 M4 p15 hE hx
    rw [L_L_law_41] at hE
    refine q_iload (pc := 41) hX 4 rfl dL_law_41 ?_
    refine q_iload_n (pc := 43) hX 3 rfl rfl dL_law_43 ?_
    refine q_icmp_ge (pc := 44) hX 126 (by decide) dL_law_44 (fun c => ?_) (fun c => ?_)
    · rw [if_pos c] at hE
      cases hE
      exact hx
    · rw [if_neg c] at hE
      refine q_aload_n (pc := 47) hX 1 rfl rfl dL_law_47 ?_
      refine q_iconst (pc := 48) hX (1) rfl dL_law_48 ?_
      refine q_aload_n (pc := 49) hX 0 rfl rfl dL_law_49 ?_
      refine q_iconst (pc := 50) hX (2) rfl dL_law_50 ?_
      refine q_iload (pc := 51) hX 4 rfl dL_law_51 ?_
      refine q_iadd (pc := 53) hX dL_law_53 ?_
      obtain ⟨v5, hv5, hE⟩ := ob_bind hE
      refine q_cell (pc := 54) hX hS hv5 (Nat.le_of_ble_eq_true rfl) (Nat.le_of_ble_eq_true rfl) (Nat.le_of_ble_eq_true rfl) (Nat.le_of_ble_eq_true rfl) (Nat.le_of_ble_eq_true rfl) dL_law_54 ?_
      refine q_bipush (pc := 57) hX (127) (by decide) dL_law_57 ?_
      obtain ⟨r6, hr6, hE⟩ := ob_bind hE
      refine q_callS (pc := 59) (As := [.int v5, .int 127]) (rest := [.int 1, .ref (o 28)]) (rv := some (.int r6)) (st' := [.int r6, .int 1, .ref (o 28)]) hX (c_L_low hr6) (sl_L_58) pd_yL_low rfl ⟨by decide, by decide⟩ ⟨Nat.le_of_ble_eq_true rfl, Nat.le_of_ble_eq_true rfl⟩ rfl (Nat.le_of_ble_eq_true rfl) rfl dL_law_59 ?_
      refine q_iadd (pc := 62) hX dL_law_62 ?_
      refine q_aload_n (pc := 63) hX 0 rfl rfl dL_law_63 ?_
      refine q_iconst (pc := 64) hX (2) rfl dL_law_64 ?_
      refine q_iload (pc := 65) hX 4 rfl dL_law_65 ?_
      refine q_iadd (pc := 67) hX dL_law_67 ?_
      obtain ⟨v7, hv7, hE⟩ := ob_bind hE
      refine q_cell (pc := 68) hX hS hv7 (Nat.le_of_ble_eq_true rfl) (Nat.le_of_ble_eq_true rfl) (Nat.le_of_ble_eq_true rfl) (Nat.le_of_ble_eq_true rfl) (Nat.le_of_ble_eq_true rfl) dL_law_68 ?_
      refine q_bipush (pc := 71) hX (7) (by decide) dL_law_71 ?_
      refine q_ishr (pc := 73) hX dL_law_73 ?_
      refine q_sipush (pc := 74) hX (1440) (by decide) dL_law_74 ?_
      obtain ⟨r8, hr8, hE⟩ := ob_bind hE
      refine q_callS (pc := 77) (As := [.int (v7 >>> (7 &&& 31)), .int 1440]) (rest := [.int (1 + r6), .ref (o 28)]) (rv := some (.int r8)) (st' := [.int r8, .int (1 + r6), .ref (o 28)]) hX (c_L_low hr8) (sl_L_58) pd_yL_low rfl ⟨by decide, by decide⟩ ⟨Nat.le_of_ble_eq_true rfl, Nat.le_of_ble_eq_true rfl⟩ rfl (Nat.le_of_ble_eq_true rfl) rfl dL_law_77 ?_
      refine q_aload_n (pc := 80) hX 0 rfl rfl dL_law_80 ?_
      refine q_iconst (pc := 81) hX (2) rfl dL_law_81 ?_
      refine q_iload (pc := 82) hX 4 rfl dL_law_82 ?_
      refine q_iadd (pc := 84) hX dL_law_84 ?_
      obtain ⟨v9, hv9, hE⟩ := ob_bind hE
      refine q_cell (pc := 85) hX hS hv9 (Nat.le_of_ble_eq_true rfl) (Nat.le_of_ble_eq_true rfl) (Nat.le_of_ble_eq_true rfl) (Nat.le_of_ble_eq_true rfl) (Nat.le_of_ble_eq_true rfl) dL_law_85 ?_
      refine q_bipush (pc := 88) hX (12) (by decide) dL_law_88 ?_
      refine q_ishr (pc := 90) hX dL_law_90 ?_
      refine q_sipush (pc := 91) hX (1440) (by decide) dL_law_91 ?_
      obtain ⟨r10, hr10, hE⟩ := ob_bind hE
      refine q_callS (pc := 94) (As := [.int (v9 >>> (12 &&& 31)), .int 1440]) (rest := [.int r8, .int (1 + r6), .ref (o 28)]) (rv := some (.int r10)) (st' := [.int r10, .int r8, .int (1 + r6), .ref (o 28)]) hX (c_L_low hr10) (sl_L_58) pd_yL_low rfl ⟨by decide, by decide⟩ ⟨Nat.le_of_ble_eq_true rfl, Nat.le_of_ble_eq_true rfl⟩ rfl (Nat.le_of_ble_eq_true rfl) rfl dL_law_94 ?_
      refine q_iconst (pc := 97) hX (1) rfl dL_law_97 ?_
      refine q_aload_n (pc := 98) hX 0 rfl rfl dL_law_98 ?_
      refine q_iconst (pc := 99) hX (2) rfl dL_law_99 ?_
      refine q_iload (pc := 100) hX 4 rfl dL_law_100 ?_
      refine q_iadd (pc := 102) hX dL_law_102 ?_
      obtain ⟨v11, hv11, hE⟩ := ob_bind hE
      refine q_cell (pc := 103) hX hS hv11 (Nat.le_of_ble_eq_true rfl) (Nat.le_of_ble_eq_true rfl) (Nat.le_of_ble_eq_true rfl) (Nat.le_of_ble_eq_true rfl) (Nat.le_of_ble_eq_true rfl) dL_law_103 ?_
      refine q_bipush (pc := 106) hX (9) (by decide) dL_law_106 ?_
      refine q_ishr (pc := 108) hX dL_law_108 ?_
      refine q_sipush (pc := 109) hX (900) (by decide) dL_law_109 ?_
      obtain ⟨r12, hr12, hE⟩ := ob_bind hE
      refine q_callS (pc := 112) (As := [.int (v11 >>> (9 &&& 31)), .int 900]) (rest := [.int 1, .int r10, .int r8, .int (1 + r6), .ref (o 28)]) (rv := some (.int r12)) (st' := [.int r12, .int 1, .int r10, .int r8, .int (1 + r6), .ref (o 28)]) hX (c_L_low hr12) (sl_L_58) pd_yL_low rfl ⟨by decide, by decide⟩ ⟨Nat.le_of_ble_eq_true rfl, Nat.le_of_ble_eq_true rfl⟩ rfl (Nat.le_of_ble_eq_true rfl) rfl dL_law_112 ?_
      refine q_iadd (pc := 115) hX dL_law_115 ?_
      obtain ⟨r13, hr13, hE⟩ := ob_bind hE
      have hkr13 : r13.1 = 0 := by
        by_cases h9 : r13.1 = 0
        · exact h9
        · rw [if_pos h9] at hE
          cases hE
      rw [if_neg (fun h => h hkr13)] at hE
      refine q_callV (pc := 116) (id := 28) (As := [.int (1 + r6), .int r8, .int r10, .int (1 + r12)]) (rest := []) (rv := some (.int r13.2.1)) (st' := [.int r13.2.1]) hX (c_X6_addPremium (thr_z hr13 hkr13)) (vl_L_64) (lt46 (by decide)) rfl rfl rfl pd_yX6_addPremium rfl ⟨by decide, by decide⟩ ⟨Nat.le_of_ble_eq_true rfl, Nat.le_of_ble_eq_true rfl⟩ rfl (Nat.le_of_ble_eq_true rfl) rfl dL_law_116 ?_
      refine q_pop (pc := 119) hX rfl dL_law_119 ?_
      obtain ⟨z14, hz14⟩ : ∃ z : Int32, z = y3 + 1 := ⟨_, rfl⟩
      have hE := bnd_nm hz14 hE
      refine q_iinc (pc := 120) (lo' := [(0, .ref b), (1, .ref (o 28)), (2, .int x2), (3, .int r2), (4, .int z14)]) hX 4 z14 [1, 2, 3, 4, 0] rfl (by rw [hz14]; rfl) (by decide) rfl dL_law_120 ?_
      refine q_goto (pc := 123) hX 41 (by decide) dL_law_123 ?_
      exact ih _ _ p15 hE hx

set_option maxHeartbeats 4000000 in
theorem g_s_L_law1 {X : Cx} (hX : CxOK X RL cL_law 16 12 454 600104 7301314 (some .boolean)) {b L : Nat} {xs : Nat → Int32} (hS : ScrOK X b L xs) {o : Nat → Nat} {hn : Nat} {M : Mem} {G : Mel} {x2 : Int32} {p : Int32 × Mem} (hE : s_L_law1 L xs M = some p) (hx : WM X o hn p.2 G 600102 7301272 126 16 [(0, .ref b), (1, .ref (o 28)), (2, .int x2), (3, .int p.1)] []) : WM X o hn M G 600102 7301272 28 16 [(0, .ref b), (1, .ref (o 28)), (2, .int x2)] [] := by
  unfold s_L_law1 at hE
  refine q_aload_n (pc := 28) hX 0 rfl rfl dL_law_28 ?_
  refine q_iconst (pc := 29) hX (1) rfl dL_law_29 ?_
  obtain ⟨v1, hv1, hE⟩ := ob_bind hE
  refine q_cell (pc := 30) hX hS hv1 (Nat.le_of_ble_eq_true rfl) (Nat.le_of_ble_eq_true rfl) (Nat.le_of_ble_eq_true rfl) (Nat.le_of_ble_eq_true rfl) (Nat.le_of_ble_eq_true rfl) dL_law_30 ?_
  refine q_iconst (pc := 33) hX (4) rfl dL_law_33 ?_
  obtain ⟨r2, hr2, hE⟩ := ob_bind hE
  refine q_callS (pc := 34) (As := [.int v1, .int 4]) (rest := []) (rv := some (.int r2)) (st' := [.int r2]) hX (c_L_low hr2) (sl_L_58) pd_yL_low rfl ⟨by decide, by decide⟩ ⟨Nat.le_of_ble_eq_true rfl, Nat.le_of_ble_eq_true rfl⟩ rfl (Nat.le_of_ble_eq_true rfl) rfl dL_law_34 ?_
  refine q_istore_n (pc := 37) (lo' := [(0, .ref b), (1, .ref (o 28)), (2, .int x2), (3, .int r2)]) hX [1, 2, 3, 0] rfl (by decide) rfl dL_law_37 ?_
  refine q_iconst (pc := 38) hX (0) rfl dL_law_38 ?_
  refine q_istore (pc := 39) (lo' := [(0, .ref b), (1, .ref (o 28)), (2, .int x2), (3, .int r2), (4, .int 0)]) hX [1, 2, 3, 4, 0] (by decide) rfl dL_law_39 ?_
  obtain ⟨p15, hp15, hE⟩ := ob_bind hE
  refine l_L_law_41 hX hS FU _ _ p15 hp15 ?_
  refine q_lo [0, 1, 2, 3] rfl ?_
  cases hE
  exact hx

set_option maxHeartbeats 4000000 in
theorem l_L_law_177 {X : Cx} (hX : CxOK X RL cL_law 16 12 454 600104 7301314 (some .boolean)) {o : Nat → Nat} {hn : Nat} {x2 : Int32} {x3 : Int32} {y1 : Int64} {y2 : Int32} {y3 : Int32} {G5 : Mel} {z8 : Int32} {b : Nat} {L : Nat} {xs : Nat → Int32} (ha : o 0 = 1) (hS : ScrOK X b L xs) : ∀ (f : Nat) (y9 : Int32) (M10 : Mem) (p33 : Int32 × Mem), L_L_law_177 hn L xs y3 z8 f y9 M10 = some p33 → WM X o hn p33.2 G5 600104 7301314 370 16 [(0, .ref b), (1, .ref (o 28)), (2, .int x2), (3, .int x3), (4, .ref (o 26)), (5, .ref (o 27)), (6, .long y1), (8, .int y2), (9, .int y3), (10, .int z8), (11, .int p33.1)] [] → WM X o hn M10 G5 600104 7301314 177 16 [(0, .ref b), (1, .ref (o 28)), (2, .int x2), (3, .int x3), (4, .ref (o 26)), (5, .ref (o 27)), (6, .long y1), (8, .int y2), (9, .int y3), (10, .int z8), (11, .int y9)] [] := by
  intro f
  induction f with
  | zero => intro y9 M10 p33 hE; simp [L_L_law_177] at hE
  | succ f ih =>
    intro y9 M10 p33 hE hx
    rw [L_L_law_177] at hE
    refine q_iload (pc := 177) hX 10 rfl dL_law_177 ?_
    refine q_iload (pc := 179) hX 9 rfl dL_law_179 ?_
    refine q_icmp_ge (pc := 181) hX 370 (by decide) dL_law_181 (fun c => ?_) (fun c => ?_)
    · rw [if_pos c] at hE
      cases hE
      exact hx
    · rw [if_neg c] at hE
      refine q_aload_n (pc := 184) hX 0 rfl rfl dL_law_184 ?_
      refine q_bipush (pc := 185) hX (7) (by decide) dL_law_185 ?_
      refine q_bipush (pc := 187) hX (20) (by decide) dL_law_187 ?_
      refine q_iload (pc := 189) hX 8 rfl dL_law_189 ?_
      refine q_imul (pc := 191) hX dL_law_191 ?_
      refine q_iadd (pc := 192) hX dL_law_192 ?_
      refine q_iload (pc := 193) hX 10 rfl dL_law_193 ?_
      refine q_iadd (pc := 195) hX dL_law_195 ?_
      obtain ⟨v11, hv11, hE⟩ := ob_bind hE
      refine q_cell (pc := 196) hX hS hv11 (Nat.le_of_ble_eq_true rfl) (Nat.le_of_ble_eq_true rfl) (Nat.le_of_ble_eq_true rfl) (Nat.le_of_ble_eq_true rfl) (Nat.le_of_ble_eq_true rfl) dL_law_196 ?_
      refine q_istore (pc := 199) (lo' := [(0, .ref b), (1, .ref (o 28)), (2, .int x2), (3, .int x3), (4, .ref (o 26)), (5, .ref (o 27)), (6, .long y1), (8, .int y2), (9, .int y3), (10, .int z8), (11, .int y9), (12, .int v11)]) hX [1, 2, 3, 4, 5, 6, 7, 8, 9, 10, 11, 0] (by decide) rfl dL_law_199 ?_
      refine q_aload_n (pc := 201) hX 0 rfl rfl dL_law_201 ?_
      refine q_bipush (pc := 202) hX (17) (by decide) dL_law_202 ?_
      refine q_bipush (pc := 204) hX (20) (by decide) dL_law_204 ?_
      refine q_iload (pc := 206) hX 8 rfl dL_law_206 ?_
      refine q_imul (pc := 208) hX dL_law_208 ?_
      refine q_iadd (pc := 209) hX dL_law_209 ?_
      refine q_iload (pc := 210) hX 10 rfl dL_law_210 ?_
      refine q_iadd (pc := 212) hX dL_law_212 ?_
      obtain ⟨v12, hv12, hE⟩ := ob_bind hE
      refine q_cell (pc := 213) hX hS hv12 (Nat.le_of_ble_eq_true rfl) (Nat.le_of_ble_eq_true rfl) (Nat.le_of_ble_eq_true rfl) (Nat.le_of_ble_eq_true rfl) (Nat.le_of_ble_eq_true rfl) dL_law_213 ?_
      refine q_istore (pc := 216) (lo' := [(0, .ref b), (1, .ref (o 28)), (2, .int x2), (3, .int x3), (4, .ref (o 26)), (5, .ref (o 27)), (6, .long y1), (8, .int y2), (9, .int y3), (10, .int z8), (11, .int y9), (12, .int v11), (13, .int v12)]) hX [1, 2, 3, 4, 5, 6, 7, 8, 9, 10, 11, 12, 0] (by decide) rfl dL_law_216 ?_
      refine q_sipush (pc := 218) hX (1440) (by decide) dL_law_218 ?_
      refine q_iload (pc := 221) hX 11 rfl dL_law_221 ?_
      refine q_bipush (pc := 223) hX (7) (by decide) dL_law_223 ?_
      obtain ⟨r13, hr13, hE⟩ := ob_bind hE
      refine q_callS (pc := 225) (As := [.int v11, .int 7]) (rest := [.int 1440]) (rv := some (.int r13)) (st' := [.int r13, .int 1440]) hX (c_L_low hr13) (sl_L_58) pd_yL_low rfl ⟨by decide, by decide⟩ ⟨Nat.le_of_ble_eq_true rfl, Nat.le_of_ble_eq_true rfl⟩ rfl (Nat.le_of_ble_eq_true rfl) rfl dL_law_225 ?_
      refine q_imul (pc := 228) hX dL_law_228 ?_
      refine q_iload (pc := 229) hX 11 rfl dL_law_229 ?_
      refine q_iconst (pc := 231) hX (3) rfl dL_law_231 ?_
      refine q_ishr (pc := 232) hX dL_law_232 ?_
      refine q_sipush (pc := 233) hX (1400) (by decide) dL_law_233 ?_
      obtain ⟨r14, hr14, hE⟩ := ob_bind hE
      refine q_callS (pc := 236) (As := [.int (v11 >>> (3 &&& 31)), .int 1400]) (rest := [.int (1440 * r13)]) (rv := some (.int r14)) (st' := [.int r14, .int (1440 * r13)]) hX (c_L_low hr14) (sl_L_58) pd_yL_low rfl ⟨by decide, by decide⟩ ⟨Nat.le_of_ble_eq_true rfl, Nat.le_of_ble_eq_true rfl⟩ rfl (Nat.le_of_ble_eq_true rfl) rfl dL_law_236 ?_
      refine q_iadd (pc := 239) hX dL_law_239 ?_
      refine q_nm (fun z15 hz15 => ?_)
      have hE := bnd_nm hz15 hE
      refine q_istore (pc := 240) (lo' := [(0, .ref b), (1, .ref (o 28)), (2, .int x2), (3, .int x3), (4, .ref (o 26)), (5, .ref (o 27)), (6, .long y1), (8, .int y2), (9, .int y3), (10, .int z8), (11, .int y9), (12, .int v11), (13, .int v12), (14, .int z15)]) hX [1, 2, 3, 4, 5, 6, 7, 8, 9, 10, 11, 12, 13, 0] (by decide) rfl dL_law_240 ?_
      refine q_iload (pc := 242) hX 13 rfl dL_law_242 ?_
      refine q_iconst (pc := 244) hX (1) rfl dL_law_244 ?_
      refine q_iadd (pc := 245) hX dL_law_245 ?_
      refine q_iload (pc := 246) hX 12 rfl dL_law_246 ?_
      refine q_iload (pc := 248) hX 12 rfl dL_law_248 ?_
      refine q_bipush (pc := 250) hX (12) (by decide) dL_law_250 ?_
      refine q_ishr (pc := 252) hX dL_law_252 ?_
      refine q_iconst (pc := 253) hX (3) rfl dL_law_253 ?_
      obtain ⟨r16, hr16, hE⟩ := ob_bind hE
      refine q_callS (pc := 254) (As := [.int (v12 >>> (12 &&& 31)), .int 3]) (rest := [.int v12, .int (z15 + 1)]) (rv := some (.int r16)) (st' := [.int r16, .int v12, .int (z15 + 1)]) hX (c_L_low hr16) (sl_L_58) pd_yL_low rfl ⟨by decide, by decide⟩ ⟨Nat.le_of_ble_eq_true rfl, Nat.le_of_ble_eq_true rfl⟩ rfl (Nat.le_of_ble_eq_true rfl) rfl dL_law_254 ?_
      obtain ⟨p18, hp18, hE⟩ := bnd_ob hE
      suffices Jp18 : WM X o hn M10 G5 600104 7301314 269 16 [(0, .ref b), (1, .ref (o 28)), (2, .int x2), (3, .int x3), (4, .ref (o 26)), (5, .ref (o 27)), (6, .long y1), (8, .int y2), (9, .int y3), (10, .int z8), (11, .int y9), (12, .int v11), (13, .int v12), (14, .int z15)] [.int p18, .int v12, .int (z15 + 1)] by
        refine q_if_ne (pc := 257) hX 266 (by decide) dL_law_257 (fun c => ?_) (fun c => ?_)
        · rw [if_neg c] at hp18
          refine q_sipush (pc := 266) hX (600) (by decide) dL_law_266 ?_
          cases hp18
          exact Jp18
        · rw [if_pos c] at hp18
          refine q_sipush (pc := 260) hX (900) (by decide) dL_law_260 ?_
          refine q_goto (pc := 263) hX 269 (by decide) dL_law_263 ?_
          cases hp18
          exact Jp18
      obtain ⟨r19, hr19, hE⟩ := ob_bind hE
      refine q_callS (pc := 269) (As := [.int v12, .int p18]) (rest := [.int (z15 + 1)]) (rv := some (.int r19)) (st' := [.int r19, .int (z15 + 1)]) hX (c_L_low hr19) (sl_L_58) pd_yL_low rfl ⟨by decide, by decide⟩ ⟨Nat.le_of_ble_eq_true rfl, Nat.le_of_ble_eq_true rfl⟩ rfl (Nat.le_of_ble_eq_true rfl) rfl dL_law_269 ?_
      refine q_iadd (pc := 272) hX dL_law_272 ?_
      refine q_nm (fun z20 hz20 => ?_)
      have hE := bnd_nm hz20 hE
      refine q_istore (pc := 273) (lo' := [(0, .ref b), (1, .ref (o 28)), (2, .int x2), (3, .int x3), (4, .ref (o 26)), (5, .ref (o 27)), (6, .long y1), (8, .int y2), (9, .int y3), (10, .int z8), (11, .int y9), (12, .int v11), (13, .int v12), (14, .int z15), (15, .int z20)]) hX [1, 2, 3, 4, 5, 6, 7, 8, 9, 10, 11, 12, 13, 14, 0] (by decide) rfl dL_law_273 ?_
      refine q_aload_n (pc := 275) hX 1 rfl rfl dL_law_275 ?_
      refine q_iconst (pc := 276) hX (0) rfl dL_law_276 ?_
      refine q_iload (pc := 277) hX 13 rfl dL_law_277 ?_
      refine q_iload (pc := 279) hX 14 rfl dL_law_279 ?_
      refine q_sipush (pc := 281) hX (10080) (by decide) dL_law_281 ?_
      obtain ⟨p22, hp22, hE⟩ := bnd_ob hE
      suffices Jp22 : WM X o hn M10 G5 600104 7301314 295 16 [(0, .ref b), (1, .ref (o 28)), (2, .int x2), (3, .int x3), (4, .ref (o 26)), (5, .ref (o 27)), (6, .long y1), (8, .int y2), (9, .int y3), (10, .int z8), (11, .int y9), (12, .int v11), (13, .int v12), (14, .int z15)] [.int p22, .int z15, .int 0, .ref (o 28)] by
        refine q_icmp_le (pc := 284) hX 293 (by decide) dL_law_284 (fun c => ?_) (fun c => ?_)
        · rw [if_pos c] at hp22
          refine q_iload (pc := 293) hX 14 rfl dL_law_293 ?_
          refine q_lo [0, 1, 2, 3, 4, 5, 6, 7, 8, 9, 10, 11, 12, 13] rfl ?_
          cases hp22
          exact Jp22
        · rw [if_neg c] at hp22
          refine q_sipush (pc := 287) hX (10080) (by decide) dL_law_287 ?_
          refine q_goto (pc := 290) hX 295 (by decide) dL_law_290 ?_
          refine q_lo [0, 1, 2, 3, 4, 5, 6, 7, 8, 9, 10, 11, 12, 13] rfl ?_
          cases hp22
          exact Jp22
      obtain ⟨r23, hr23, hE⟩ := ob_bind hE
      have hkr23 : r23.1 = 0 := by
        by_cases h9 : r23.1 = 0
        · exact h9
        · rw [if_pos h9] at hE
          cases hE
      rw [if_neg (fun h => h hkr23)] at hE
      refine q_callV (pc := 295) (id := 28) (As := [.int 0, .int z15, .int p22]) (rest := []) (rv := some (.int r23.2.1)) (st' := [.int r23.2.1]) hX (c_X6_enter (thr_z hr23 hkr23)) (vl_L_68) (lt46 (by decide)) rfl rfl rfl pd_yX6_enter rfl ⟨by decide, by decide⟩ ⟨Nat.le_of_ble_eq_true rfl, Nat.le_of_ble_eq_true rfl⟩ rfl (Nat.le_of_ble_eq_true rfl) rfl dL_law_295 ?_
      refine q_pop (pc := 298) hX rfl dL_law_298 ?_
      refine q_iload (pc := 299) hX 11 rfl dL_law_299 ?_
      refine q_bipush (pc := 301) hX (14) (by decide) dL_law_301 ?_
      refine q_ishr (pc := 303) hX dL_law_303 ?_
      refine q_iconst (pc := 304) hX (4) rfl dL_law_304 ?_
      obtain ⟨r24, hr24, hE⟩ := ob_bind hE
      refine q_callS (pc := 305) (As := [.int (v11 >>> (14 &&& 31)), .int 4]) (rest := []) (rv := some (.int r24)) (st' := [.int r24]) hX (c_L_low hr24) (sl_L_58) pd_yL_low rfl ⟨by decide, by decide⟩ ⟨Nat.le_of_ble_eq_true rfl, Nat.le_of_ble_eq_true rfl⟩ rfl (Nat.le_of_ble_eq_true rfl) rfl dL_law_305 ?_
      obtain ⟨p31, hp31, hE⟩ := ob_bind hE
      suffices Jp31 : WM X o hn p31 G5 600104 7301314 364 16 [(0, .ref b), (1, .ref (o 28)), (2, .int x2), (3, .int x3), (4, .ref (o 26)), (5, .ref (o 27)), (6, .long y1), (8, .int y2), (9, .int y3), (10, .int z8), (11, .int y9)] [] by
        refine q_if_ne (pc := 308) hX 364 (by decide) dL_law_308 (fun c => ?_) (fun c => ?_)
        · rw [if_neg c] at hp31
          refine q_lo [0, 1, 2, 3, 4, 5, 6, 7, 8, 9, 10] rfl ?_
          cases hp31
          exact Jp31
        · rw [if_pos c] at hp31
          refine q_aload_n (pc := 311) hX 1 rfl rfl dL_law_311 ?_
          refine q_iconst (pc := 312) hX (0) rfl dL_law_312 ?_
          refine q_iload (pc := 313) hX 13 rfl dL_law_313 ?_
          refine q_bipush (pc := 315) hX (40) (by decide) dL_law_315 ?_
          refine q_iadd (pc := 317) hX dL_law_317 ?_
          refine q_iload (pc := 318) hX 13 rfl dL_law_318 ?_
          refine q_bipush (pc := 320) hX (41) (by decide) dL_law_320 ?_
          refine q_iadd (pc := 322) hX dL_law_322 ?_
          refine q_iload (pc := 323) hX 12 rfl dL_law_323 ?_
          refine q_iconst (pc := 325) hX (5) rfl dL_law_325 ?_
          refine q_ishr (pc := 326) hX dL_law_326 ?_
          refine q_bipush (pc := 327) hX (90) (by decide) dL_law_327 ?_
          obtain ⟨r26, hr26, hp31⟩ := ob_bind hp31
          refine q_callS (pc := 329) (As := [.int (v12 >>> (5 &&& 31)), .int 90]) (rest := [.int (z15 + 41), .int (z15 + 40), .int 0, .ref (o 28)]) (rv := some (.int r26)) (st' := [.int r26, .int (z15 + 41), .int (z15 + 40), .int 0, .ref (o 28)]) hX (c_L_low hr26) (sl_L_58) pd_yL_low rfl ⟨by decide, by decide⟩ ⟨Nat.le_of_ble_eq_true rfl, Nat.le_of_ble_eq_true rfl⟩ rfl (Nat.le_of_ble_eq_true rfl) rfl dL_law_329 ?_
          refine q_iadd (pc := 332) hX dL_law_332 ?_
          refine q_sipush (pc := 333) hX (10080) (by decide) dL_law_333 ?_
          obtain ⟨p29, hp29, hp31⟩ := ob_bind hp31
          suffices Jp29 : WM X o hn r23.2.2 G5 600104 7301314 360 16 [(0, .ref b), (1, .ref (o 28)), (2, .int x2), (3, .int x3), (4, .ref (o 26)), (5, .ref (o 27)), (6, .long y1), (8, .int y2), (9, .int y3), (10, .int z8), (11, .int y9)] [.int p29, .int (z15 + 40), .int 0, .ref (o 28)] by
            refine q_icmp_le (pc := 336) hX 345 (by decide) dL_law_336 (fun c => ?_) (fun c => ?_)
            · rw [if_pos c] at hp29
              refine q_iload (pc := 345) hX 13 rfl dL_law_345 ?_
              refine q_bipush (pc := 347) hX (41) (by decide) dL_law_347 ?_
              refine q_iadd (pc := 349) hX dL_law_349 ?_
              refine q_iload (pc := 350) hX 12 rfl dL_law_350 ?_
              refine q_iconst (pc := 352) hX (5) rfl dL_law_352 ?_
              refine q_ishr (pc := 353) hX dL_law_353 ?_
              refine q_bipush (pc := 354) hX (90) (by decide) dL_law_354 ?_
              obtain ⟨r28, hr28, hp29⟩ := ob_bind hp29
              refine q_callS (pc := 356) (As := [.int (v12 >>> (5 &&& 31)), .int 90]) (rest := [.int (z15 + 41), .int (z15 + 40), .int 0, .ref (o 28)]) (rv := some (.int r28)) (st' := [.int r28, .int (z15 + 41), .int (z15 + 40), .int 0, .ref (o 28)]) hX (c_L_low hr28) (sl_L_58) pd_yL_low rfl ⟨by decide, by decide⟩ ⟨Nat.le_of_ble_eq_true rfl, Nat.le_of_ble_eq_true rfl⟩ rfl (Nat.le_of_ble_eq_true rfl) rfl dL_law_356 ?_
              refine q_iadd (pc := 359) hX dL_law_359 ?_
              refine q_lo [0, 1, 2, 3, 4, 5, 6, 7, 8, 9, 10] rfl ?_
              cases hp29
              exact Jp29
            · rw [if_neg c] at hp29
              refine q_sipush (pc := 339) hX (10080) (by decide) dL_law_339 ?_
              refine q_goto (pc := 342) hX 360 (by decide) dL_law_342 ?_
              refine q_lo [0, 1, 2, 3, 4, 5, 6, 7, 8, 9, 10] rfl ?_
              cases hp29
              exact Jp29
          obtain ⟨r30, hr30, hp31⟩ := ob_bind hp31
          have hkr30 : r30.1 = 0 := by
            by_cases h9 : r30.1 = 0
            · exact h9
            · rw [if_pos h9] at hp31
              cases hp31
          rw [if_neg (fun h => h hkr30)] at hp31
          refine q_callV (pc := 360) (id := 28) (As := [.int 0, .int (z15 + 40), .int p29]) (rest := []) (rv := some (.int r30.2.1)) (st' := [.int r30.2.1]) hX (c_X6_enterBreak (thr_z hr30 hkr30)) (vl_L_71) (lt46 (by decide)) rfl rfl rfl pd_yX6_enterBreak rfl ⟨by decide, by decide⟩ ⟨Nat.le_of_ble_eq_true rfl, Nat.le_of_ble_eq_true rfl⟩ rfl (Nat.le_of_ble_eq_true rfl) rfl dL_law_360 ?_
          refine q_pop (pc := 363) hX rfl dL_law_363 ?_
          cases hp31
          exact Jp31
      obtain ⟨z32, hz32⟩ : ∃ z : Int32, z = y9 + 1 := ⟨_, rfl⟩
      have hE := bnd_nm hz32 hE
      refine q_iinc (pc := 364) (lo' := [(0, .ref b), (1, .ref (o 28)), (2, .int x2), (3, .int x3), (4, .ref (o 26)), (5, .ref (o 27)), (6, .long y1), (8, .int y2), (9, .int y3), (10, .int z8), (11, .int z32)]) hX 10 z32 [1, 2, 3, 4, 5, 6, 7, 8, 9, 10, 0] rfl (by rw [hz32]; rfl) (by decide) rfl dL_law_364 ?_
      refine q_goto (pc := 367) hX 177 (by decide) dL_law_367 ?_
      exact ih _ _ p33 hE hx

set_option maxHeartbeats 4000000 in
theorem l_L_law_147 {X : Cx} (hX : CxOK X RL cL_law 16 12 454 600104 7301314 (some .boolean)) {o : Nat → Nat} {hn : Nat} {x2 : Int32} {x3 : Int32} {b : Nat} {L : Nat} {xs : Nat → Int32} (ha : o 0 = 1) (hS : ScrOK X b L xs) : ∀ (f : Nat) (y1 : Int64) (y2 : Int32) (y3 : Int32) (M4 : Mem) (G5 : Mel) (p45 : Int64 × Int32 × Int32 × Mem × Mel), L_L_law_147 hn L xs x2 x3 f y1 y2 y3 M4 G5 = some p45 → WM X o hn p45.2.2.2.1 p45.2.2.2.2 600104 7301314 462 16 [(0, .ref b), (1, .ref (o 28)), (2, .int x2), (3, .int x3), (4, .ref (o 26)), (5, .ref (o 27)), (6, .long p45.1), (8, .int p45.2.1), (9, .int p45.2.2.1)] [] → WM X o hn M4 G5 600104 7301314 147 16 [(0, .ref b), (1, .ref (o 28)), (2, .int x2), (3, .int x3), (4, .ref (o 26)), (5, .ref (o 27)), (6, .long y1), (8, .int y2), (9, .int y3)] [] := by
  intro f
  induction f with
  | zero => intro y1 y2 y3 M4 G5 p45 hE; simp [L_L_law_147] at hE
  | succ f ih =>
    intro y1 y2 y3 M4 G5 p45 hE hx
    rw [L_L_law_147] at hE
    refine q_iload (pc := 147) hX 8 rfl dL_law_147 ?_
    refine q_iconst (pc := 149) hX (4) rfl dL_law_149 ?_
    refine q_icmp_ge (pc := 150) hX 462 (by decide) dL_law_150 (fun c => ?_) (fun c => ?_)
    · rw [if_pos c] at hE
      cases hE
      exact hx
    · rw [if_neg c] at hE
      refine q_iconst (pc := 153) hX (1) rfl dL_law_153 ?_
      refine q_aload_n (pc := 154) hX 0 rfl rfl dL_law_154 ?_
      refine q_bipush (pc := 155) hX (6) (by decide) dL_law_155 ?_
      refine q_bipush (pc := 157) hX (20) (by decide) dL_law_157 ?_
      refine q_iload (pc := 159) hX 8 rfl dL_law_159 ?_
      refine q_imul (pc := 161) hX dL_law_161 ?_
      refine q_iadd (pc := 162) hX dL_law_162 ?_
      obtain ⟨v6, hv6, hE⟩ := ob_bind hE
      refine q_cell (pc := 163) hX hS hv6 (Nat.le_of_ble_eq_true rfl) (Nat.le_of_ble_eq_true rfl) (Nat.le_of_ble_eq_true rfl) (Nat.le_of_ble_eq_true rfl) (Nat.le_of_ble_eq_true rfl) dL_law_163 ?_
      refine q_bipush (pc := 166) hX (9) (by decide) dL_law_166 ?_
      obtain ⟨r7, hr7, hE⟩ := ob_bind hE
      refine q_callS (pc := 168) (As := [.int v6, .int 9]) (rest := [.int 1]) (rv := some (.int r7)) (st' := [.int r7, .int 1]) hX (c_L_low hr7) (sl_L_58) pd_yL_low rfl ⟨by decide, by decide⟩ ⟨Nat.le_of_ble_eq_true rfl, Nat.le_of_ble_eq_true rfl⟩ rfl (Nat.le_of_ble_eq_true rfl) rfl dL_law_168 ?_
      refine q_iadd (pc := 171) hX dL_law_171 ?_
      refine q_nm (fun z8 hz8 => ?_)
      have hE := bnd_nm hz8 hE
      refine q_istore (pc := 172) (lo' := [(0, .ref b), (1, .ref (o 28)), (2, .int x2), (3, .int x3), (4, .ref (o 26)), (5, .ref (o 27)), (6, .long y1), (8, .int y2), (9, .int y3), (10, .int z8)]) hX [1, 2, 3, 4, 5, 6, 7, 8, 9, 0] (by decide) rfl dL_law_172 ?_
      refine q_iconst (pc := 174) hX (0) rfl dL_law_174 ?_
      refine q_istore (pc := 175) (lo' := [(0, .ref b), (1, .ref (o 28)), (2, .int x2), (3, .int x3), (4, .ref (o 26)), (5, .ref (o 27)), (6, .long y1), (8, .int y2), (9, .int y3), (10, .int z8), (11, .int 0)]) hX [1, 2, 3, 4, 5, 6, 7, 8, 9, 10, 0] (by decide) rfl dL_law_175 ?_
      obtain ⟨p33, hp33, hE⟩ := ob_bind hE
      refine l_L_law_177 hX ha hS FU _ _ p33 hp33 ?_
      refine q_aload_n (pc := 370) hX 1 rfl rfl dL_law_370 ?_
      refine q_aload (pc := 371) hX 4 rfl dL_law_371 ?_
      refine q_aload (pc := 373) hX 5 rfl dL_law_373 ?_
      refine q_iload_n (pc := 375) hX 2 rfl rfl dL_law_375 ?_
      refine q_iload_n (pc := 376) hX 3 rfl rfl dL_law_376 ?_
      obtain ⟨p35, hp35, hE⟩ := bnd_ob hE
      suffices Jp35 : WM X o hn p33.2 G5 600104 7301314 385 16 [(0, .ref b), (1, .ref (o 28)), (2, .int x2), (3, .int x3), (4, .ref (o 26)), (5, .ref (o 27)), (6, .long y1), (8, .int y2), (9, .int y3)] [.int p35, .int x2, .ref (o 27), .ref (o 26), .ref (o 28)] by
        refine q_if_le (pc := 377) hX 384 (by decide) dL_law_377 (fun c => ?_) (fun c => ?_)
        · rw [if_pos c] at hp35
          refine q_iconst (pc := 384) hX (0) rfl dL_law_384 ?_
          refine q_lo [0, 1, 2, 3, 4, 5, 6, 7, 8] rfl ?_
          cases hp35
          exact Jp35
        · rw [if_neg c] at hp35
          refine q_iconst (pc := 380) hX (1) rfl dL_law_380 ?_
          refine q_goto (pc := 381) hX 385 (by decide) dL_law_381 ?_
          refine q_lo [0, 1, 2, 3, 4, 5, 6, 7, 8] rfl ?_
          cases hp35
          exact Jp35
      obtain ⟨r36, hr36, hE⟩ := ob_bind hE
      refine q_callS (pc := 385) (As := [.ref (o 28), .ref (o 26), .ref (o 27), .int x2, .int p35]) (rest := []) (rv := some (.int r36.1)) (st' := [.int r36.1]) hX (c_L_isPaid ha hr36) (sl_L_74) pd_yL_isPaid rfl ⟨by decide, by decide⟩ ⟨Nat.le_of_ble_eq_true rfl, Nat.le_of_ble_eq_true rfl⟩ rfl (Nat.le_of_ble_eq_true rfl) rfl dL_law_385 ?_
      refine q_if_ne (pc := 388) hX 393 (by decide) dL_law_388 (fun c => ?_) (fun c => ?_)
      · rw [if_neg c] at hE
        refine q_aload_n (pc := 393) hX 1 rfl rfl dL_law_393 ?_
        refine q_iconst (pc := 394) hX (0) rfl dL_law_394 ?_
        obtain ⟨r37, hr37, hE⟩ := ob_bind hE
        have hkr37 : r37.1 = 0 := by
          by_cases h9 : r37.1 = 0
          · exact h9
          · rw [if_pos h9] at hE
            cases hE
        rw [if_neg (fun h => h hkr37)] at hE
        refine q_callV (pc := 395) (id := 28) (As := [.int 0]) (rest := []) (rv := some (.int r37.2.1)) (st' := [.int r37.2.1]) hX (c_X6_pay (thr_z hr37 hkr37)) (vl_L_31) (lt46 (by decide)) rfl rfl rfl pd_yX6_pay rfl ⟨by decide, by decide⟩ ⟨Nat.le_of_ble_eq_true rfl, Nat.le_of_ble_eq_true rfl⟩ rfl (Nat.le_of_ble_eq_true rfl) rfl dL_law_395 ?_
        refine q_istore (pc := 398) (lo' := [(0, .ref b), (1, .ref (o 28)), (2, .int x2), (3, .int x3), (4, .ref (o 26)), (5, .ref (o 27)), (6, .long y1), (8, .int y2), (9, .int y3), (11, .int r37.2.1)]) hX [1, 2, 3, 4, 5, 6, 7, 8, 9, 0] (by decide) rfl dL_law_398 ?_
        refine q_aload_n (pc := 400) hX 1 rfl rfl dL_law_400 ?_
        refine q_iconst (pc := 401) hX (0) rfl dL_law_401 ?_
        obtain ⟨r38, hr38, hE⟩ := ob_bind hE
        have hkr38 : r38.1 = 0 := by
          by_cases h9 : r38.1 = 0
          · exact h9
          · rw [if_pos h9] at hE
            cases hE
        rw [if_neg (fun h => h hkr38)] at hE
        refine q_callV (pc := 402) (id := 28) (As := [.int 0]) (rest := []) (rv := some (.int r38.2.1)) (st' := [.int r38.2.1]) hX (c_X6_closeWeek (thr_z hr38 hkr38)) (vl_L_78) (lt46 (by decide)) rfl rfl rfl pd_yX6_closeWeek rfl ⟨by decide, by decide⟩ ⟨Nat.le_of_ble_eq_true rfl, Nat.le_of_ble_eq_true rfl⟩ rfl (Nat.le_of_ble_eq_true rfl) rfl dL_law_402 ?_
        refine q_istore (pc := 405) (lo' := [(0, .ref b), (1, .ref (o 28)), (2, .int x2), (3, .int x3), (4, .ref (o 26)), (5, .ref (o 27)), (6, .long y1), (8, .int y2), (9, .int y3), (11, .int r37.2.1), (12, .int r38.2.1)]) hX [1, 2, 3, 4, 5, 6, 7, 8, 9, 10, 0] (by decide) rfl dL_law_405 ?_
        refine q_lload (pc := 407) hX 6 rfl dL_law_407 ?_
        refine q_iload (pc := 409) hX 10 rfl dL_law_409 ?_
        refine q_i2l (pc := 411) hX dL_law_411 ?_
        refine q_ladd (pc := 412) hX dL_law_412 ?_
        refine q_nmL (fun z39 hz39 => ?_)
        have hE := bnd_nm hz39 hE
        refine q_lstore (pc := 413) (lo' := [(0, .ref b), (1, .ref (o 28)), (2, .int x2), (3, .int x3), (4, .ref (o 26)), (5, .ref (o 27)), (6, .long z39), (8, .int y2), (9, .int y3), (11, .int r37.2.1), (12, .int r38.2.1)]) hX [1, 2, 3, 4, 5, 6, 0, 7, 8, 9, 10] (by decide) rfl dL_law_413 ?_
        obtain ⟨z40, hz40⟩ : ∃ z : Int32, z = y2 + 1 := ⟨_, rfl⟩
        have hE := bnd_nm hz40 hE
        refine q_iinc (pc := 415) (lo' := [(0, .ref b), (1, .ref (o 28)), (2, .int x2), (3, .int x3), (4, .ref (o 26)), (5, .ref (o 27)), (6, .long z39), (8, .int z40), (9, .int y3), (11, .int r37.2.1), (12, .int r38.2.1)]) hX 7 z40 [1, 2, 3, 4, 5, 6, 7, 0, 8, 9, 10] rfl (by rw [hz40]; rfl) (by decide) rfl dL_law_415 ?_
        refine q_iload (pc := 418) hX 10 rfl dL_law_418 ?_
        refine q_iload (pc := 420) hX 9 rfl dL_law_420 ?_
        refine q_icmp_ne (pc := 422) hX 454 (by decide) dL_law_422 (fun c => ?_) (fun c => ?_)
        · rw [if_neg c] at hE
          refine q_iconst (pc := 454) hX (0) rfl dL_law_454 ?_
          cases hE
        · rw [if_pos c] at hE
          refine q_aload_n (pc := 425) hX 1 rfl rfl dL_law_425 ?_
          refine q_iconst (pc := 426) hX (0) rfl dL_law_426 ?_
          obtain ⟨r41, hr41, hE⟩ := ob_bind hE
          have hkr41 : r41.1 = 0 := by
            by_cases h9 : r41.1 = 0
            · exact h9
            · rw [if_pos h9] at hE
              cases hE
          rw [if_neg (fun h => h hkr41)] at hE
          refine q_callV (pc := 427) (id := 28) (As := [.int 0]) (rest := []) (rv := some (.long r41.2)) (st' := [.long r41.2]) hX (c_X6_earned (thr_z hr41 hkr41)) (vl_L_81) (lt46 (by decide)) rfl rfl rfl pd_yX6_earned rfl ⟨by decide, by decide⟩ ⟨Nat.le_of_ble_eq_true rfl, Nat.le_of_ble_eq_true rfl⟩ rfl (Nat.le_of_ble_eq_true rfl) rfl dL_law_427 ?_
          refine q_lload (pc := 430) hX 6 rfl dL_law_430 ?_
          refine q_lcmp_ne (pc := 432) hX 454 (by decide) dL_law_432 dL_law_433 (fun c => ?_) (fun c => ?_)
          · rw [if_neg c] at hE
            refine q_iconst (pc := 454) hX (0) rfl dL_law_454 ?_
            cases hE
          · rw [if_pos c] at hE
            refine q_aload_n (pc := 436) hX 1 rfl rfl dL_law_436 ?_
            refine q_iconst (pc := 437) hX (0) rfl dL_law_437 ?_
            obtain ⟨r42, hr42, hE⟩ := ob_bind hE
            have hkr42 : r42.1 = 0 := by
              by_cases h9 : r42.1 = 0
              · exact h9
              · rw [if_pos h9] at hE
                cases hE
            rw [if_neg (fun h => h hkr42)] at hE
            refine q_callV (pc := 438) (id := 28) (As := [.int 0]) (rest := []) (rv := some (.int r42.2)) (st' := [.int r42.2]) hX (c_X6_closedWeeks (thr_z hr42 hkr42)) (vl_L_85) (lt46 (by decide)) rfl rfl rfl pd_yX6_closedWeeks rfl ⟨by decide, by decide⟩ ⟨Nat.le_of_ble_eq_true rfl, Nat.le_of_ble_eq_true rfl⟩ rfl (Nat.le_of_ble_eq_true rfl) rfl dL_law_438 ?_
            refine q_iload (pc := 441) hX 7 rfl dL_law_441 ?_
            refine q_icmp_ne (pc := 443) hX 454 (by decide) dL_law_443 (fun c => ?_) (fun c => ?_)
            · rw [if_neg c] at hE
              refine q_iconst (pc := 454) hX (0) rfl dL_law_454 ?_
              cases hE
            · rw [if_pos c] at hE
              refine q_aload_n (pc := 446) hX 1 rfl rfl dL_law_446 ?_
              refine q_iconst (pc := 447) hX (0) rfl dL_law_447 ?_
              obtain ⟨r43, hr43, hE⟩ := ob_bind hE
              refine q_callS (pc := 448) (As := [.ref (o 28), .int 0]) (rest := []) (rv := some (.int r43.1)) (st' := [.int r43.1]) hX (c_L_isEmpty hr43) (sl_L_88) pd_yL_isEmpty rfl ⟨by decide, by decide⟩ ⟨Nat.le_of_ble_eq_true rfl, Nat.le_of_ble_eq_true rfl⟩ rfl (Nat.le_of_ble_eq_true rfl) rfl dL_law_448 ?_
              refine q_if_ne (pc := 451) hX 456 (by decide) dL_law_451 (fun c => ?_) (fun c => ?_)
              · rw [if_neg c] at hE
                obtain ⟨z44, hz44⟩ : ∃ z : Int32, z = y3 + 1 := ⟨_, rfl⟩
                have hE := bnd_nm hz44 hE
                refine q_iinc (pc := 456) (lo' := [(0, .ref b), (1, .ref (o 28)), (2, .int x2), (3, .int x3), (4, .ref (o 26)), (5, .ref (o 27)), (6, .long z39), (8, .int z40), (9, .int z44), (11, .int r37.2.1), (12, .int r38.2.1)]) hX 8 z44 [1, 2, 3, 4, 5, 6, 7, 8, 0, 9, 10] rfl (by rw [hz44]; rfl) (by decide) rfl dL_law_456 ?_
                refine q_goto (pc := 459) hX 147 (by decide) dL_law_459 ?_
                refine q_lo [0, 1, 2, 3, 4, 5, 6, 7, 8] rfl ?_
                exact ih _ _ _ _ _ p45 hE hx
              · rw [if_pos c] at hE
                refine q_iconst (pc := 454) hX (0) rfl dL_law_454 ?_
                cases hE
      · rw [if_pos c] at hE
        refine q_iconst (pc := 391) hX (0) rfl dL_law_391 ?_
        cases hE

set_option maxHeartbeats 4000000 in
theorem g_s_L_law2 {X : Cx} (hX : CxOK X RL cL_law 16 12 454 600104 7301314 (some .boolean)) {b L : Nat} {xs : Nat → Int32} (hS : ScrOK X b L xs) {o : Nat → Nat} {hn : Nat} {M : Mem} {G : Mel} {x2 : Int32} {x3 : Int32} (ha : o 0 = 1) {p : Unit} (hE : s_L_law2 L xs M G hn x2 x3 = some p) (hx : ∀ (M' : Mem) (G' : Mel) (lo : List (Nat × Value)), WM X o hn M' G' 600104 7301314 463 16 lo [.int 1]) : WM X o hn M G 600104 7301314 138 16 [(0, .ref b), (1, .ref (o 28)), (2, .int x2), (3, .int x3), (4, .ref (o 26)), (5, .ref (o 27))] [] := by
  unfold s_L_law2 at hE
  refine q_lconst (pc := 138) hX 0 rfl dL_law_138 ?_
  refine q_lstore (pc := 139) (lo' := [(0, .ref b), (1, .ref (o 28)), (2, .int x2), (3, .int x3), (4, .ref (o 26)), (5, .ref (o 27)), (6, .long 0)]) hX [1, 2, 3, 4, 5, 6, 0] (by decide) rfl dL_law_139 ?_
  refine q_iconst (pc := 141) hX (0) rfl dL_law_141 ?_
  refine q_istore (pc := 142) (lo' := [(0, .ref b), (1, .ref (o 28)), (2, .int x2), (3, .int x3), (4, .ref (o 26)), (5, .ref (o 27)), (6, .long 0), (8, .int 0)]) hX [1, 2, 3, 4, 5, 6, 7, 0] (by decide) rfl dL_law_142 ?_
  refine q_iconst (pc := 144) hX (0) rfl dL_law_144 ?_
  refine q_istore (pc := 145) (lo' := [(0, .ref b), (1, .ref (o 28)), (2, .int x2), (3, .int x3), (4, .ref (o 26)), (5, .ref (o 27)), (6, .long 0), (8, .int 0), (9, .int 0)]) hX [1, 2, 3, 4, 5, 6, 7, 8, 0] (by decide) rfl dL_law_145 ?_
  obtain ⟨p45, hp45, hE⟩ := ob_bind hE
  refine l_L_law_147 hX ha hS FU _ _ _ _ _ p45 hp45 ?_
  refine q_iconst (pc := 462) hX (1) rfl dL_law_462 ?_
  cases hE
  exact hx _ _ _

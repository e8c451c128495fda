/-! hire that throws; the law's wrapper of hire -/
set_option maxHeartbeats 4000000 in
theorem c_X6_hire_x1 {Y : Lx} {o : Nat → Nat} {hn : Nat} {M : Mem} {G : Mel} {x1 : Int32} (h1 : s_X6_requireWithin x1 1 100000 = some 1) : MI Y yX6_hire cX6_hire 3 (some .int) 7 112 9 187 [.ref (o 28), .int x1] o hn M G (.inr (exn 1)) M G := by
  refine MI.of (by decide +kernel) (Nat.le_of_ble_eq_true rfl) (fun X hY hX hE0 hR => ?_)
  change CxOK X RX6 cX6_hire 3 7 112 9 187 (some .int) at hX
  show WM X o hn M G 0 0 0 3 [(0, .ref (o 28)), (1, .int x1)] []
  refine q_iload_n (pc := 0) hX 1 rfl rfl dX6_hire_0 ?_
  refine q_iconst (pc := 1) hX (1) rfl dX6_hire_1 ?_
  refine q_ldc (pc := 2) hX kw_119 dX6_hire_2 ?_
  refine q_callSx (pc := 4) (As := [.int x1, .int 1, .int 100000]) (rest := []) hX (MI_x (by decide) (c_X6_requireWithin h1)) (sl_X6_46) pd_yX6_requireWithin rfl ⟨by decide, by decide⟩ ⟨by decide, by decide⟩ rfl (Nat.le_of_ble_eq_true rfl) dX6_hire_4 ?_
  exact q_out hX hE0 hR (by decide) (by decide)
set_option maxHeartbeats 4000000 in
theorem c_X6_hire_x2 {Y : Lx} {o : Nat → Nat} {hn : Nat} {M : Mem} {G : Mel} {x1 : Int32} (h1 : s_X6_requireWithin x1 1 100000 = some 0) (h6 : hn = 6) : MI Y yX6_hire cX6_hire 3 (some .int) 7 112 9 187 [.ref (o 28), .int x1] o hn M G (.inr (exn 2)) M G := by
  refine MI.of (by decide +kernel) (Nat.le_of_ble_eq_true rfl) (fun X hY hX hE0 hR => ?_)
  change CxOK X RX6 cX6_hire 3 7 112 9 187 (some .int) at hX
  show WM X o hn M G 0 0 0 3 [(0, .ref (o 28)), (1, .int x1)] []
  refine q_iload_n (pc := 0) hX 1 rfl rfl dX6_hire_0 ?_
  refine q_iconst (pc := 1) hX (1) rfl dX6_hire_1 ?_
  refine q_ldc (pc := 2) hX kw_119 dX6_hire_2 ?_
  refine q_callS (pc := 4) (As := [.int x1, .int 1, .int 100000]) (rest := []) (rv := none) (st' := []) hX (MI_0 rfl (c_X6_requireWithin h1)) (sl_X6_46) pd_yX6_requireWithin rfl ⟨by decide, by decide⟩ ⟨by decide, by decide⟩ rfl (Nat.le_of_ble_eq_true rfl) rfl dX6_hire_4 ?_
  refine q_aload_n (pc := 7) hX 0 rfl rfl dX6_hire_7 ?_
  refine q_get (pc := 8) (id := 28) (ci := 6) (N := 6) (T := TX6) (C := RX6) hX 1 (lt46 (by decide)) rfl rfl in_X6 (by decide) (Or.inl kw_15) rfl dX6_hire_8 ?_
  refine q_istore_n (pc := 11) (lo' := [(0, .ref (o 28)), (1, .int x1), (2, .int (nI hn))]) hX [1, 2, 0] rfl (by decide) rfl dX6_hire_11 ?_
  refine q_iload_n (pc := 12) hX 2 rfl rfl dX6_hire_12 ?_
  refine q_if_lt (pc := 13) hX 25 (by decide) dX6_hire_13 (fun c => absurd c (nI_pos (by omega))) (fun c => ?_)
  refine q_iload_n (pc := 16) hX 2 rfl rfl dX6_hire_16 ?_
  refine q_aload_n (pc := 17) hX 0 rfl rfl dX6_hire_17 ?_
  refine q_get (pc := 18) (id := 28) (ci := 6) (N := 6) (T := TX6) (C := RX6) hX 0 (lt46 (by decide)) rfl rfl in_X6 (by decide) (Or.inl kw_14) rfl dX6_hire_18 ?_
  refine r_alenS (pc := 21) hX dX6_hire_21 ?_
  refine q_icmp_lt (pc := 22) hX 35 (by decide) dX6_hire_22 (fun c => absurd c (by subst h6; decide)) (fun c => ?_)
  exact q_throwS (pc := 25) (E := eISE) (text := "there are 6 employees already") (ik := 50) (is := 52) (ic := 54) hX hE0 hR kw_117 kw_118 (by decide) (by decide +kernel) at_2 ot_2 (by decide) (by decide) (Nat.le_of_ble_eq_true rfl) (by decide) (by decide) dX6_hire_25 dX6_hire_28 dX6_hire_29 dX6_hire_31 dX6_hire_34
section WrapH
variable {X : Cx} {own : String} {cc : ByteArray} {nL fr lc mc0 ms0 : Nat} {rt : Option FieldType} {o : Nat → Nat} {hn : Nat} {M M' : Mem} {G G' : Mel} {a b pc : Nat} {lo : List (Nat × Value)} {st st' rest : List Value}
variable {y : MethodName} {bytes : ByteArray} {maxL fr' lc' mc ms idx : Nat} {ret : Option FieldType} {As : List Value} {rv : Option Value}
/-- behind a call that returned and made the world grow -/
theorem q_okH {Y : Lx} {p : Program} {e : Env} {R : Room} {s : State} {m : MethodId} {args : Array Value} {below : List Frame} {meth : Method} {c : Code} {Q : State → Prop} {A : Nat → Prop} {H : Heap} {locs : List Loc} {ls : Array Slot} {av : Array Value} (hA : ∀ q : Nat, s.heap.size ≤ q → A q) (hw : HW Y.2.1 Y.2.2.1 A (Wd Y.2.2.2 o hn M G) s.heap H locs) (hl : lv_has ls nL lo)
    (hr : vx_Run p Y.1 e R s m args below meth c H locs a b mc ms (F0 m pc ls st) rest (QcH Y (va_A (Wd Y.2.2.2 o hn M G) H.size) o hn M' G' rv av) (fun _ _ _ => False) (va_A (Wd Y.2.2.2 o hn M G) H.size)) (hst' : rv.toList ++ rest = st')
    (k : ∀ o' : Nat → Nat, (∀ k, k < 46 + 7 * hn → o' k = o k) → WM (Y, p, e, R, s, m, args, below, meth, c, Q, A) o' (hn + 1) M' G' (a + mc) (b + ms) (pc + 3) nL lo st') : W p Y.1 e R s m args below meth c H locs a b Q (F0 m pc ls st) := by
  have hf := va_freeAll hw.2.1 hw.2.2 hA
  subst hst'
  intro T hT Xs
  rcases hr T hT Xs with ⟨v, st₀, t, T', L, h0, X', hL, e1, e2, ⟨hoc, ⟨o', hE, ho⟩, hF⟩, go⟩ | ⟨q, st₀, t, T', L, E, ce, h0, X', hL, e1, e2, hF, -⟩
  · cases hoc
    obtain ⟨k1, k2, k3⟩ := vx_keep h0 e1 hw.2.2 (fun q _ h => hf q h) hf hL hF
    have hS' : va_S A s.heap T'.heap (locs ++ L) := k3
    obtain ⟨t2, a1, b1⟩ := k o' ho T'.heap (locs ++ L) ls ⟨by rw [e1]; exact hE.1, hE.2.2.weaken (fun _ q _ h => hf q.1 h), hS'⟩ hl T' rfl X'
    exact ⟨t2, go t2 a1, b1⟩
  · exact hF.elim
theorem q_callVH (hX : CxOK X own cc nL fr lc mc0 ms0 rt) {ci id n : Nat} {fs : List Value} {vc : vw_C} (hm : MIH X.1 y (.code y bytes maxL ret) fr' lc' mc ms (.ref (o id) :: As) o hn M G rv M' G') (hv : VL own idx y bytes maxL ret) (hk : id < 46 + 7 * hn) (he : ob X.1.2.2.2 o hn id (M id) (G id) = .inr (ci, fs)) (hc : vwCl[ci]? = some vc) (hvc : vc.1 = y.cls)
    (hn' : (parseMethodDescriptor y.desc).map (fun d => d.parameters.length) = some n) (hln : As.length = n) (hroom : fr' + 1 ≤ fr ∧ 8 + (maxL + 11) + lc' ≤ lc) (hcap : a + mc ≤ mc0 ∧ b + ms ≤ ms0) (hst : st = As.reverse ++ .ref (o id) :: rest) (hcat : (rest.map fun v => v.category).sum ≤ 8) (hst' : rv.toList ++ rest = st') (d : decode cc pc = .ok (.invokevirtual idx, 3))
    (k : ∀ o' : Nat → Nat, (∀ k, k < 46 + 7 * hn → o' k = o k) → WM X o' (hn + 1) M' G' (a + mc) (b + ms) (pc + 3) nL lo st') : WM X o hn M G a b pc nL lo st := by
  obtain ⟨⟨l, dC, dI, ac⟩, p, e, R, s, m, args, below, meth, c, Q, A⟩ := X
  obtain ⟨hRm, hx, hb, hml, hown, hts, hK, hA, hMF, hrt, hlk, htr⟩ := hX
  intro H locs ls hw hl
  subst hst
  have hr : vx_Run p l e R s m args below meth c H locs a b mc ms (F0 m pc ls (As.reverse ++ .ref (o id) :: rest)) rest (QcH (l, dC, dI, ac) (va_A (Wd ac o hn M G) H.size) o hn M' G' rv (Value.ref (o id) :: As).toArray) (fun _ _ _ => False) (va_A (Wd ac o hn M G) H.size) := vx_runV (As := As) (b := o id) (rest := rest) ⟨hx, hb, hml, hown, hts⟩ (hm htr H.size) (cwV n hts (good_V hv) rfl rfl rfl ⟨rfl, hv.2.2.2.2.2.1, hv.2.2.2.2.2.2, hn'⟩ (by rw [hRm]; exact hroom)) ⟨PreM.blind _ _ _ _ _ _ _, by rw [← hvc]; exact va_recv hK hw.1 hc (wd_at hk he), fun U hU hW => ⟨rfl, PreM.at (Y := (l, dC, dI, ac)) hw hK hA hMF hU hW⟩⟩ rfl hln hl.1 rfl (lv_room hcat) d (by rw [hRm]; exact hcap)
  exact q_okH (Y := (l, dC, dI, ac)) hA hw hl hr hst' k
theorem q_callWH (hX : CxOK X own cc nL fr lc mc0 ms0 rt) {n : Nat} {hh : List (Nat × Nat × Nat × Nat)} (hm : MIH X.1 y (.codeWith y bytes maxL ret hh) fr' lc' mc ms As o hn M G rv M' G') (hv : WL own idx y bytes maxL ret hh)
    (hn' : (parseMethodDescriptor y.desc).map (fun d => d.parameters.length) = some n) (hln : As.length = n) (hroom : fr' + 1 ≤ fr ∧ 8 + (maxL + 11) + lc' ≤ lc) (hcap : a + mc ≤ mc0 ∧ b + ms ≤ ms0) (hst : st = As.reverse ++ rest) (hcat : (rest.map fun v => v.category).sum ≤ 8) (hst' : rv.toList ++ rest = st') (d : decode cc pc = .ok (.invokestatic idx, 3))
    (k : ∀ o' : Nat → Nat, (∀ k, k < 46 + 7 * hn → o' k = o k) → WM X o' (hn + 1) M' G' (a + mc) (b + ms) (pc + 3) nL lo st') : WM X o hn M G a b pc nL lo st := by
  obtain ⟨⟨l, dC, dI, ac⟩, p, e, R, s, m, args, below, meth, c, Q, A⟩ := X
  obtain ⟨hRm, hx, hb, hml, hown, hts, hK, hA, hMF, hrt, hlk2, htr⟩ := hX
  intro H locs ls hw hl
  subst hst
  have hr : vx_Run p l e R s m args below meth c H locs a b mc ms (F0 m pc ls (As.reverse ++ rest)) rest (QcH (l, dC, dI, ac) (va_A (Wd ac o hn M G) H.size) o hn M' G' rv As.toArray) (fun _ _ _ => False) (va_A (Wd ac o hn M G) H.size) := vx_runSX (hh := hh) (As := As) (rest := rest) ⟨hx, hb, hml, hown, hts⟩ (hm htr H.size) (vx_cwSW n hts (good_W hv) rfl rfl rfl ⟨hv.2.2.2.2.1, hv.2.2.2.2.2, hn'⟩ (by rw [hRm]; exact hroom)) ⟨PreM.blind _ _ _ _ _ _ _, fun U hU hW => ⟨rfl, PreM.at (Y := (l, dC, dI, ac)) hw hK hA hMF hU hW⟩⟩ rfl hln hl.1 rfl (lv_room hcat) d (by rw [hRm]; exact hcap)
  exact q_okH (Y := (l, dC, dI, ac)) hA hw hl hr hst' k
end WrapH
set_option maxHeartbeats 4000000 in
theorem c_L_hire_ok {Y : Lx} {o : Nat → Nat} {hn : Nat} {M : Mem} {G : Mel} {x1 : Int32} (h1 : s_X6_requireWithin x1 1 100000 = some 0) (h6 : hn < 6) : MIH Y yL_hire (.codeWith yL_hire cL_hire 4 (some .int) [(0, 9, 12, 13), (0, 9, 15, 15)]) 8 134 9 187 [.ref (o 28), .int x1, .ref (o 0)] o hn M G (some (.int 0)) (hM M (46 + 7 * hn) x1) (mstL (hG G (46 + 7 * hn)) 0 0 (nI hn).toInt64) := by
  refine MIH.ofW (by decide +kernel) (Nat.le_of_ble_eq_true rfl) (fun X hY hX hR => ?_)
  change CxOK X RL cL_hire 4 8 134 9 187 (some .int) at hX
  show WM X o hn M G 0 0 0 4 [(0, .ref (o 28)), (1, .int x1), (2, .ref (o 0))] []
  refine q_aload_n (pc := 0) hX 2 rfl rfl dL_hire_0 ?_
  refine q_iconst (pc := 1) hX (0) rfl dL_hire_1 ?_
  refine q_aload_n (pc := 2) hX 0 rfl rfl dL_hire_2 ?_
  refine q_iload_n (pc := 3) hX 1 rfl rfl dL_hire_3 ?_
  refine q_callVH (pc := 4) (id := 28) (As := [.int x1]) (rest := [.int 0, .ref (o 0)]) (st' := [.int (nI hn), .int 0, .ref (o 0)]) hX (c_X6_hire_ok h1 h6) (vl_L_7) (lt46 (by decide)) rfl rfl rfl pd_yX6_hire rfl ⟨by decide, by decide⟩ ⟨by decide, by decide⟩ rfl (Nat.le_of_ble_eq_true rfl) rfl dL_hire_4 (fun o' ho => ?_)
  have e0 : o 0 = o' 0 := (ho 0 (by omega)).symm
  rw [e0]
  refine q_i2l (pc := 7) hX dL_hire_7 ?_
  have hW : mwrL 1 (hG G (46 + 7 * hn)) 0 0 (nI hn).toInt64 = some (mstL (hG G (46 + 7 * hn)) 0 0 (nI hn).toInt64) := rfl
  refine r_last (pc := 8) (id := 0) (n := 1) hX (lt46 (by decide)) (fun _ _ => rfl) hW dL_hire_8 ?_
  refine q_goto (pc := 9) hX 18 (by decide) dL_hire_9 ?_
  refine q_iconst (pc := 18) hX (0) rfl dL_hire_18 ?_
  exact q_hret hX hR ho (by decide) (by decide) dL_hire_19
set_option maxHeartbeats 4000000 in
theorem c_L_hire_x1 {Y : Lx} {o : Nat → Nat} {hn : Nat} {M : Mem} {G : Mel} {x1 : Int32} (h1 : s_X6_requireWithin x1 1 100000 = some 1) : MIW Y yL_hire cL_hire 4 (some .int) [(0, 9, 12, 13), (0, 9, 15, 15)] 8 134 9 187 [.ref (o 28), .int x1, .ref (o 0)] o hn M G (.inl (some (.int 1))) M G := by
  refine MIW.of (by decide +kernel) (Nat.le_of_ble_eq_true rfl) (fun X hY hX hE0 hR => ?_)
  change CxOK X RL cL_hire 4 8 134 9 187 (some .int) at hX
  show WM X o hn M G 0 0 0 4 [(0, .ref (o 28)), (1, .int x1), (2, .ref (o 0))] []
  refine q_aload_n (pc := 0) hX 2 rfl rfl dL_hire_0 ?_
  refine q_iconst (pc := 1) hX (0) rfl dL_hire_1 ?_
  refine q_aload_n (pc := 2) hX 0 rfl rfl dL_hire_2 ?_
  refine q_iload_n (pc := 3) hX 1 rfl rfl dL_hire_3 ?_
  refine q_callVx (pc := 4) (id := 28) (E := eIAE) (As := [.int x1]) (rest := [.int 0, .ref (o 0)]) hX (c_X6_hire_x1 h1) (vl_L_7) (lt46 (by decide)) rfl rfl rfl pd_yX6_hire rfl ⟨by decide, by decide⟩ ⟨by decide, by decide⟩ rfl (Nat.le_of_ble_eq_true rfl) dL_hire_4 ?_
  refine q_catch hX hE0 [] ⟨0, 9, 12, 13⟩ [⟨0, 9, 15, 15⟩] rfl (fun z hz => nomatch hz) (by decide) (by decide) kw_111 cast_1 (fun q2 => ?_)
  refine q_astore_n (pc := 12) (lo' := [(0, .ref (o 28)), (1, .int x1), (2, .ref (o 0)), (3, .ref q2)]) hX [1, 2, 3, 0] rfl (by decide) rfl dL_hire_12 ?_
  refine q_iconst (pc := 13) hX (1) rfl dL_hire_13 ?_
  exact q_iret hX hR (by decide) (by decide) dL_hire_14
set_option maxHeartbeats 4000000 in
theorem c_L_hire_x2 {Y : Lx} {o : Nat → Nat} {hn : Nat} {M : Mem} {G : Mel} {x1 : Int32} (h1 : s_X6_requireWithin x1 1 100000 = some 0) (h6 : hn = 6) : MIW Y yL_hire cL_hire 4 (some .int) [(0, 9, 12, 13), (0, 9, 15, 15)] 8 134 9 187 [.ref (o 28), .int x1, .ref (o 0)] o hn M G (.inl (some (.int 2))) M G := by
  refine MIW.of (by decide +kernel) (Nat.le_of_ble_eq_true rfl) (fun X hY hX hE0 hR => ?_)
  change CxOK X RL cL_hire 4 8 134 9 187 (some .int) at hX
  show WM X o hn M G 0 0 0 4 [(0, .ref (o 28)), (1, .int x1), (2, .ref (o 0))] []
  refine q_aload_n (pc := 0) hX 2 rfl rfl dL_hire_0 ?_
  refine q_iconst (pc := 1) hX (0) rfl dL_hire_1 ?_
  refine q_aload_n (pc := 2) hX 0 rfl rfl dL_hire_2 ?_
  refine q_iload_n (pc := 3) hX 1 rfl rfl dL_hire_3 ?_
  refine q_callVx (pc := 4) (id := 28) (E := eISE) (As := [.int x1]) (rest := [.int 0, .ref (o 0)]) hX (c_X6_hire_x2 h1 h6) (vl_L_7) (lt46 (by decide)) rfl rfl rfl pd_yX6_hire rfl ⟨by decide, by decide⟩ ⟨by decide, by decide⟩ rfl (Nat.le_of_ble_eq_true rfl) dL_hire_4 ?_
  refine q_catch hX hE0 [⟨0, 9, 12, 13⟩] ⟨0, 9, 15, 15⟩ [] rfl (fun z hz => (List.mem_cons.mp hz).elim (fun e => by subst e; exact ⟨by decide, eIAE, kw_111, by decide +kernel⟩) (fun hz => nomatch hz)) (by decide) (by decide) kw_112 cast_2 (fun q2 => ?_)
  refine q_astore_n (pc := 15) (lo' := [(0, .ref (o 28)), (1, .int x1), (2, .ref (o 0)), (3, .ref q2)]) hX [1, 2, 3, 0] rfl (by decide) rfl dL_hire_15 ?_
  refine q_iconst (pc := 16) hX (2) rfl dL_hire_16 ?_
  exact q_iret hX hR (by decide) (by decide) dL_hire_17

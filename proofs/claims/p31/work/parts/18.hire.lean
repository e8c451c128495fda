/-! hire: the world grows by seven cells -/
def QcH (Y : Lx) (A : Nat → Prop) (o : Nat → Nat) (hn : Nat) (M : Mem) (G : Mel) (rv : Option Value) : Array Value → State → Outcome → State → Prop := fun _ st oc t => oc = .returned rv ∧ (∃ o' : Nat → Nat, EndW Y A o' (hn + 1) M G t ∧ ∀ k, k < 46 + 7 * hn → o' k = o k) ∧ va_F A st t
def MIH (Y : Lx) (y : MethodName) (c0 : Cond) (fr lc mc ms : Nat) (av : List Value) (o : Nat → Nat) (hn : Nat) (M : Mem) (G : Mel) (rv : Option Value) (M' : Mem) (G' : Mel) : Prop :=
  Y.1.stackTraces = false → ∀ sz : Nat, vx_Met Y.1 y (c0 :: BG) { frames := fr, cells := mc, slots := ms, locals := lc } (va_Pc av (PreM Y o hn M G sz)) (QcH Y (va_A (Wd Y.2.2.2 o hn M G) sz) o hn M' G' rv) (fun _ _ _ => False) mc ms (va_A (Wd Y.2.2.2 o hn M G) sz)
def CxH (X : Cx) (mc ms : Nat) (o : Nat → Nat) (hn : Nat) (M : Mem) (G : Mel) (rv : Option Value) : Prop :=
  match X with
  | (Y, _, _, _, s, _, args, below, _, _, Q, A) => Q = vx_MQ below (QcH Y A o hn M G rv) (fun _ _ _ => False) args s mc ms A
theorem MIH.of {Y : Lx} {y : MethodName} {bytes : ByteArray} {maxL : Nat} {ret : Option FieldType} {fr lc mc ms : Nat} {av : List Value} {o : Nat → Nat} {hn : Nat} {M M' : Mem} {G G' : Mel} {rv : Option Value} (hy : plainName y.cls = true) (hlen : (lg_sl av).length ≤ maxL)
    (body : ∀ X : Cx, X.1 = Y → CxOK X y.cls bytes maxL fr lc mc ms ret → CxH X mc ms o hn M' G' rv → WM X o hn M G 0 0 0 maxL (lv_args 0 av) []) : MIH Y y (.code y bytes maxL ret) fr lc mc ms av o hn M G rv M' G' := by
  intro htr sz
  refine vx_ofW (cc := bytes) (maxL := maxL) (ret := ret) hy rfl ?_
  intro p e s m args below meth c s₁ B hml hno hv
  obtain ⟨rfl, hsz, hP, hK, hD0, hMF⟩ := hv
  subst hsz
  have hts := atoms_spec (ws := .code y bytes maxL ret :: BG) B.pre
  have key := body (Y, p, e, { frames := fr, cells := mc, slots := ms, locals := lc }, s, m, av.toArray, below, meth, c, _, va_A (Wd Y.2.2.2 o hn M G) s.heap.size) rfl ⟨rfl, B.exec, B.bytes, hml, findClass_of_methodNamed B.named, fun w h => hts w (List.mem_cons_of_mem _ h), hK, fun q h => Or.inr h, hMF, B.returns, B.notSynchronized, htr⟩ rfl
  rw [lg_entry_eq]
  exact key s.heap [] _ ⟨hP, hD0.self, va_S.rf⟩ (lv_entry av hlen)
theorem va_nd_of : ∀ (l : List Nat), l.Nodup → va_nd l = true
  | [], _ => rfl
  | a :: l, h => by
    rw [List.nodup_cons] at h
    simp [va_nd, h.1, va_nd_of l h.2]
/-- the addresses behind hire -/
def hO (o : Nat → Nat) (n q : Nat) (q' : Nat → Nat) : Nat → Nat := fun k => if k < n then o k else if k = n then q else q' (k - n - 1)
/-- the new employee's values -/
def hM (M : Mem) (n : Nat) (x : Int32) : Mem := fun k => if k < n then M k else if k = n then (fun j => if j = 0 then x else 0) else fun _ => 0
def hG (G : Mel) (n : Nat) : Mel := fun k => if k < n then G k else fun _ => 0
/-- the seven cells of a new employee -/
def hW (ac : Nat → ClassId) (q : Nat) (q' : Nat → Nat) (x : Int32) : va_W := [(q, .inr (0, [.int x, .int 0, .long 0, .ref (q' 0), .ref (q' 2), .ref (q' 4)])), ((q' 0), .inr (4, [.int 2, .ref (q' 1), .int 0])), ((q' 1), .inl (ac 0, 80, .inl (fun _ => 0))), ((q' 2), .inr (4, [.int 2, .ref (q' 3), .int 0])), ((q' 3), .inl (ac 0, 40, .inl (fun _ => 0))), ((q' 4), .inr (4, [.int 2, .ref (q' 5), .int 0])), ((q' 5), .inl (ac 0, 40, .inl (fun _ => 0)))]
theorem clamp_nI {n : Nat} (h : n < 2 ^ 31) : (nI n).toNatClampNeg = n := nI_clamp h
theorem range_app (l x : va_W) (n : Nat) (h : l.length = n) : (List.range n).map (fun i => (l ++ x)[i]?) = l.map some := by
  subst h
  apply List.ext_getElem?
  intro i
  rw [List.getElem?_map, List.getElem?_map]
  by_cases h : i < l.length
  · rw [List.getElem?_range h]
    show some ((l ++ x)[i]?) = _
    rw [List.getElem?_append_left h, List.getElem?_eq_getElem h]
    rfl
  · rw [List.getElem?_eq_none (by rw [List.length_range]; omega), List.getElem?_eq_none (by omega)]
    rfl
theorem wd_18 {ac : Nat → ClassId} {o : Nat → Nat} {M : Mem} {G : Mel} (h0 : ¬ o 0 = 1) : (Wd ac o 0 M G).length = 18 := by rw [wd_len, if_neg h0]
theorem hire_up {o : Nat → Nat} {q : Nat} {q' : Nat → Nat} : va_up (fun j => if j < 0 then some (o (46 + 7 * j)) else none) 0 (some q) = fun j => if j < 1 then some (hO o 46 q q' (46 + 7 * j)) else none := by
  funext j
  by_cases hj : j = 0
  · subst hj; simp [va_up, hO]
  · have h1 : ¬ j < 1 := by omega
    simp [va_up, hj, h1]
set_option maxHeartbeats 4000000 in
set_option maxRecDepth 100000 in
theorem hire_world {ac : Nat → ClassId} {o : Nat → Nat} {M : Mem} {G : Mel} {q : Nat} {q' : Nat → Nat} {x : Int32} (h0 : ¬ o 0 = 1) :
    (((Wd ac o 0 M G ++ hW ac q q' x).set 1 (o 29, .inl (ac 3, 6, .inr (.inr (.inr (.inr (va_up (fun j => if j < 0 then some (o (46 + 7 * j)) else none) 0 (some q)))))))).set 0 (o 28, .inr (6, [.ref (o 29), .int (nI 0 + 1), .ref (o 30), .ref (o 33), .ref (o 38), .ref (o 43)])))
      = Wd ac (hO o 46 q q') 1 (hM M 46 x) (hG G 46) := by
  rw [hire_up (q' := q')]
  unfold Wd
  rw [if_neg h0, if_neg (show ¬ hO o 46 q q' 0 = 1 from h0), List.append_nil, List.append_nil]
  rw [show List.range (18 + 7 * 0) = [0, 1, 2, 3, 4, 5, 6, 7, 8, 9, 10, 11, 12, 13, 14, 15, 16, 17] from rfl, show List.range (18 + 7 * 1) = [0, 1, 2, 3, 4, 5, 6, 7, 8, 9, 10, 11, 12, 13, 14, 15, 16, 17, 18, 19, 20, 21, 22, 23, 24] from rfl]
  simp only [List.map_cons, List.map_nil, List.cons_append, List.nil_append, List.set_cons_zero, List.set_cons_succ]
  rfl
section HireRows
variable {X : Cx} {own : String} {cc : ByteArray} {nL fr lc mc ms : Nat} {rt : Option FieldType} {w : va_W} {a b pc : Nat} {lo : List (Nat × Value)} {st : List Value}
theorem tq_astq (hX : CxOK X own cc nL fr lc mc ms rt) {i : Int32} {q0 v : Nat} {vs : List Value} {f : Nat → Option Nat} {w' : va_W} (i0 ik : Nat) (he : w[i0]? = some (q0, .inl (X.1.2.2.2 3, 6, .inr (.inr (.inr (.inr f)))))) (hv : w[ik]? = some (v, .inr (0, vs))) (hw' : w.set i0 (q0, .inl (X.1.2.2.2 3, 6, .inr (.inr (.inr (.inr (va_up f i.toNatClampNeg (some v))))))) = w') (hi : vp_in i 6) (d : decode cc pc = .ok (.aastore, 1)) (k : WMl X w' a b (pc + 1) nL lo st) : WMl X w a b pc nL lo (.ref v :: .int i :: .ref q0 :: st) := by
  obtain ⟨⟨l, dC, dI, ac⟩, p, e, R, s, m, args, below, meth, c, Q, A⟩ := X
  obtain ⟨hR, hx, hb, hml, hown, hts, hK, hA, hMF, hrt, hlk, htr⟩ := hX
  intro H locs ls hw hl
  subst hw'
  exact va_astq hx hb hK hw.1 hw.2.1 hw.2.2 i0 1 ik 0 (r := (RX0, TX0, 6)) he rfl hv rfl hi d (fun H1 locs1 hP hD hS => k H1 locs1 ls ⟨hP, hD, hS⟩ hl)
theorem q_hret {o : Nat → Nat} {hn : Nat} {M : Mem} {G : Mel} {o' : Nat → Nat} (hX : CxOK X own cc nL fr lc mc ms (some .int)) {v : Int32} (hR : CxH X mc ms o hn M G (some (.int v))) (ho : ∀ k, k < 46 + 7 * hn → o' k = o k) (h1 : a ≤ mc) (h2 : b ≤ ms) (d : decode cc pc = .ok (.ireturn, 1)) : WM X o' (hn + 1) M G a b pc nL lo [.int v] := by
  refine q_widen h1 h2 ?_
  obtain ⟨⟨l, dC, dI, ac⟩, p, e, R, s, m, args, below, meth, c, Q, A⟩ := X
  obtain ⟨hRm, hx, hb, hml, hown, hts, hK, hA, hMF, hrt, hlk, htr⟩ := hX
  cases hR
  intro H locs ls hw hl
  exact vx_ret (W.iret (v := v) hx hb hrt (fun t ht hW => ⟨rfl, ⟨o', ⟨by rw [ht]; exact hw.1, hK.moved hW.alike, hw.2.1⟩, ho⟩, hw.2.2.F ht⟩) hw.2.2.2.2 d hlk)
end HireRows
set_option maxHeartbeats 4000000 in
theorem c_X6_hire_ok {Y : Lx} {o : Nat → Nat} {M : Mem} {G : Mel} {x1 : Int32} (h0 : ¬ o 0 = 1) (h1 : s_X6_requireWithin x1 1 100000 = some 0) : MIH Y yX6_hire (.code yX6_hire cX6_hire 3 (some .int)) 3 62 7 175 [.ref (o 28), .int x1] o 0 M G (some (.int (nI 0))) (hM M 46 x1) (hG G 46) := by
  refine MIH.of (by decide +kernel) (Nat.le_of_ble_eq_true rfl) (fun X hY hX hR => ?_)
  change CxOK X RX6 cX6_hire 3 3 62 7 175 (some .int) at hX
  show WM X o 0 M G 0 0 0 3 [(0, .ref (o 28)), (1, .int x1)] []
  refine q_iload_n (pc := 0) hX 1 rfl rfl dX6_hire_0 ?_
  refine q_iconst (pc := 1) hX (1) rfl dX6_hire_1 ?_
  refine q_ldc (pc := 2) hX kw_85 dX6_hire_2 ?_
  refine q_callS (pc := 4) (As := [.int x1, .int 1, .int 100000]) (rest := []) (rv := none) (st' := []) hX (c_X6_requireWithin h1) (sl_X6_46) pd_yX6_requireWithin rfl ⟨by decide, by decide⟩ ⟨by decide, by decide⟩ rfl (Nat.le_of_ble_eq_true rfl) rfl dX6_hire_4 ?_
  refine q_aload_n (pc := 7) hX 0 rfl rfl dX6_hire_7 ?_
  refine q_get (pc := 8) (id := 28) (ci := 6) (N := 6) (T := TX6) (C := RX6) hX 1 (lt46 (by decide)) rfl rfl in_X6 (by decide) (Or.inl kw_12) rfl dX6_hire_8 ?_
  refine q_istore_n (pc := 11) (lo' := [(0, .ref (o 28)), (1, .int x1), (2, .int (nI 0))]) hX [1, 2, 0] rfl (by decide) rfl dX6_hire_11 ?_
  refine q_iload_n (pc := 12) hX 2 rfl rfl dX6_hire_12 ?_
  refine q_if_lt (pc := 13) hX 25 (by decide) dX6_hire_13 (fun c => absurd c (by decide)) (fun c => ?_)
  refine q_iload_n (pc := 16) hX 2 rfl rfl dX6_hire_16 ?_
  refine q_aload_n (pc := 17) hX 0 rfl rfl dX6_hire_17 ?_
  refine q_get (pc := 18) (id := 28) (ci := 6) (N := 6) (T := TX6) (C := RX6) hX 0 (lt46 (by decide)) rfl rfl in_X6 (by decide) (Or.inl kw_11) rfl dX6_hire_18 ?_
  refine r_alenS (pc := 21) hX dX6_hire_21 ?_
  refine q_icmp_lt (pc := 22) hX 35 (by decide) dX6_hire_22 (fun c => ?_) (fun c => absurd (show nI 0 < 6 by decide) c)
  refine q_aload_n (pc := 35) hX 0 rfl rfl dX6_hire_35 ?_
  refine q_get (pc := 36) (id := 28) (ci := 6) (N := 6) (T := TX6) (C := RX6) hX 0 (lt46 (by decide)) rfl rfl in_X6 (by decide) (Or.inl kw_11) rfl dX6_hire_36 ?_
  refine q_iload_n (pc := 39) hX 2 rfl rfl dX6_hire_39 ?_
  refine WMl_of ?_
  refine tq_new (pc := 40) (ci := 0) (fs := [.int 0, .int 0, .long 0, .null, .null, .null]) (C := RX0) (T := TX0) (N := 6) (ty := tyX0) hX in_X0 tyX0_ok kw_10 kw_86 kw_87 rfl (by decide +kernel) (Nat.le_of_ble_eq_true rfl) (Nat.le_of_ble_eq_true rfl) dX6_hire_40 (fun q => ?_)
  refine tq_dup (pc := 43) hX rfl dX6_hire_43 ?_
  refine tq_iload_n (pc := 44) hX 1 rfl rfl dX6_hire_44 ?_
  have hlen := wd_18 (ac := X.1.2.2.2) (M := M) (G := G) h0
  refine tq_ctor (pc := 45) (As := [.int x1]) (wr := Wd X.1.2.2.2 o 0 M G) (sts := [.int x1, .ref q, .ref q, .int (nI 0), .ref (o 29)]) (st := [.ref q, .int (nI 0), .ref (o 29)]) hX (c_X0_init (h0 := q) (x1 := x1)) [18] (List.range 18) (by simp only [List.map_cons, List.map_nil]; rw [List.getElem?_append_right (by rw [hlen]; exact Nat.le_refl _), hlen]; rfl) (range_app _ _ _ hlen) rfl (va_nd_of _ List.nodup_range) (fun i hi => by have := List.mem_range.mp hi; simp; omega) kw_93 kw_94 kw_87 kw_95 rfl ⟨by decide +kernel, by decide +kernel⟩ pd_yX0_init rfl ⟨by decide, by decide⟩ ⟨Nat.le_of_ble_eq_true rfl, Nat.le_of_ble_eq_true rfl⟩ rfl (Nat.le_of_ble_eq_true rfl) dX6_hire_45 (fun q' => ?_)
  change WMl X (Wd X.1.2.2.2 o 0 M G ++ hW X.1.2.2.2 q q' x1) _ _ _ _ _ _
  have h29 : (Wd X.1.2.2.2 o 0 M G ++ hW X.1.2.2.2 q q' x1)[1]? = some (o 29, .inl (X.1.2.2.2 3, 6, .inr (.inr (.inr (.inr (fun j => if j < 0 then some (o (46 + 7 * j)) else none)))))) := by
    rw [List.getElem?_append_left (by rw [hlen]; decide)]
    exact wd_at (k := 29) (lt46 (by decide)) rfl
  have h28 : (Wd X.1.2.2.2 o 0 M G ++ hW X.1.2.2.2 q q' x1)[0]? = some (o 28, .inr (6, [.ref (o 29), .int (nI 0), .ref (o 30), .ref (o 33), .ref (o 38), .ref (o 43)])) := by
    rw [List.getElem?_append_left (by rw [hlen]; decide)]
    exact wd_at (k := 28) (lt46 (by decide)) rfl
  refine tq_astq (pc := 48) (f := fun j => if j < 0 then some (o (46 + 7 * j)) else none) (vs := [.int x1, .int 0, .long 0, .ref (q' 0), .ref (q' 2), .ref (q' 4)]) hX 1 18 h29 (by rw [List.getElem?_append_right (by rw [hlen]; exact Nat.le_refl _), hlen]; rfl) rfl (vp_in_nI (by decide) (by decide)) dX6_hire_48 ?_
  refine tq_aload_n (pc := 49) hX 0 rfl rfl dX6_hire_49 ?_
  refine tq_iload_n (pc := 50) hX 2 rfl rfl dX6_hire_50 ?_
  refine tq_iconst (pc := 51) hX (1) rfl dX6_hire_51 ?_
  refine tq_iadd (pc := 52) hX dX6_hire_52 ?_
  refine tq_put (pc := 53) (ci := 6) (N := 6) (T := TX6) (C := RX6) (fs := [.ref (o 29), .int (nI 0), .ref (o 30), .ref (o 33), .ref (o 38), .ref (o 43)]) (ty := .int) (ty0 := tyX6) (w' := Wd X.1.2.2.2 (hO o 46 q q') 1 (hM M 46 x1) (hG G 46)) hX 0 1 (by rw [List.getElem?_set_ne (by decide)]; exact h28) (by rw [clamp_nI (by decide)]; exact hire_world h0) rfl in_X6 tyX6_ok nmX6 (by decide) kw_12 rfl (by decide +kernel) rfl rfl (Nat.le_of_ble_eq_true rfl) dX6_hire_53 ?_
  refine WM_of ?_
  refine q_iload_n (pc := 56) hX 2 rfl rfl dX6_hire_56 ?_
  exact q_hret hX hR (fun k hk => if_pos hk) (Nat.le_of_ble_eq_true rfl) (Nat.le_of_ble_eq_true rfl) dX6_hire_57
section WrapH
variable {X : Cx} {own : String} {cc : ByteArray} {nL fr lc mc0 ms0 : Nat} {rt : Option FieldType} {o : Nat → Nat} {hn : Nat} {M M' : Mem} {G G' : Mel} {a b pc : Nat} {lo : List (Nat × Value)} {st st' rest : List Value}
variable {y : MethodName} {bytes : ByteArray} {maxL fr' lc' mc ms idx : Nat} {ret : Option FieldType} {As : List Value} {rv : Option Value}
/-- behind a call that returned and made the world grow -/
theorem q_okH {Y : Lx} {p : Program} {e : Env} {R : Room} {s : State} {m : MethodId} {args : Array Value} {below : List Frame} {meth : Method} {c : Code} {Q : State → Prop} {A : Nat → Prop} {H : Heap} {locs : List Loc} {ls : Array Slot} {av : Array Value} (hA : ∀ q : Nat, s.heap.size ≤ q → A q) (hw : HW Y.2.1 Y.2.2.1 A (Wd Y.2.2.2 o hn M G) s.heap H locs) (hl : lv_has ls nL lo)
    (hr : vx_Run p Y.1 e R s m args below meth c H locs a b mc ms (F0 m pc ls st) rest (QcH Y (va_A (Wd Y.2.2.2 o hn M G) H.size) o hn M' G' rv av) (fun _ _ _ => False) (va_A (Wd Y.2.2.2 o hn M G) H.size)) (hst' : rv.toList ++ rest = st')
    (k : ∀ o' : Nat → Nat, (∀ k, k < 46 + 7 * hn → o' k = o k) → WM (Y, p, e, R, s, m, args, below, meth, c, Q, A) o' (hn + 1) M' G' (a + mc) (b + ms) (pc + 3) nL lo st') : W p Y.1 e R s m args below meth c H locs a b Q (F0 m pc ls st) := by
  have hf := va_freeAll hw.2.1 hw.2.2 hA
  subst hst'
  intro T hT Xs
  rcases hr T hT Xs with ⟨v, st₀, t, T', L, h0, X', hL, e1, e2, ⟨hoc, ⟨o', hE, ho⟩, hF⟩, go⟩ | ⟨q, st₀, t, T', L, E, ce, h0, X', hL, e1, e2, hF, -⟩
  · cases hoc
    obtain ⟨k1, k2, k3⟩ := vx_keep h0 e1 hw.2.2 (fun q _ h => hf q h) hf hL hF
    have hS' : va_S A s.heap T'.heap (locs ++ L) := k3
    obtain ⟨t2, a1, b1⟩ := k o' ho T'.heap (locs ++ L) ls ⟨by rw [e1]; exact hE.1, hE.2.2.weaken (fun _ q _ h => hf q.1 h), hS'⟩ hl T' rfl X'
    exact ⟨t2, go t2 a1, b1⟩
  · exact hF.elim
theorem q_callVH (hX : CxOK X own cc nL fr lc mc0 ms0 rt) {ci id n : Nat} {fs : List Value} {vc : vw_C} (hm : MIH X.1 y (.code y bytes maxL ret) fr' lc' mc ms (.ref (o id) :: As) o hn M G rv M' G') (hv : VL own idx y bytes maxL ret) (hk : IDL o hn id) (he : ob X.1.2.2.2 o hn id (M id) (G id) = .inr (ci, fs)) (hc : vwCl[ci]? = some vc) (hvc : vc.1 = y.cls)
    (hn' : (parseMethodDescriptor y.desc).map (fun d => d.parameters.length) = some n) (hln : As.length = n) (hroom : fr' + 1 ≤ fr ∧ 8 + (maxL + 11) + lc' ≤ lc) (hcap : a + mc ≤ mc0 ∧ b + ms ≤ ms0) (hst : st = As.reverse ++ .ref (o id) :: rest) (hcat : (rest.map fun v => v.category).sum ≤ 8) (hst' : rv.toList ++ rest = st') (d : decode cc pc = .ok (.invokevirtual idx, 3))
    (k : ∀ o' : Nat → Nat, (∀ k, k < 46 + 7 * hn → o' k = o k) → WM X o' (hn + 1) M' G' (a + mc) (b + ms) (pc + 3) nL lo st') : WM X o hn M G a b pc nL lo st := by
  obtain ⟨⟨l, dC, dI, ac⟩, p, e, R, s, m, args, below, meth, c, Q, A⟩ := X
  obtain ⟨hRm, hx, hb, hml, hown, hts, hK, hA, hMF, hrt, hlk, htr⟩ := hX
  intro H locs ls hw hl
  subst hst
  have hr : vx_Run p l e R s m args below meth c H locs a b mc ms (F0 m pc ls (As.reverse ++ .ref (o id) :: rest)) rest (QcH (l, dC, dI, ac) (va_A (Wd ac o hn M G) H.size) o hn M' G' rv (Value.ref (o id) :: As).toArray) (fun _ _ _ => False) (va_A (Wd ac o hn M G) H.size) := vx_runV (As := As) (b := o id) (rest := rest) ⟨hx, hb, hml, hown, hts⟩ (hm htr H.size) (cwV n hts (good_V hv) rfl rfl rfl ⟨rfl, hv.2.2.2.2.2.1, hv.2.2.2.2.2.2, hn'⟩ (by rw [hRm]; exact hroom)) ⟨PreM.blind _ _ _ _ _ _ _, by rw [← hvc]; exact va_recv hK hw.1 hc (wd_at hk he), fun U hU hW => ⟨rfl, PreM.at (Y := (l, dC, dI, ac)) hw hK hA hMF hU hW⟩⟩ rfl hln hl.1 rfl (lv_room hcat) d (by rw [hRm]; exact hcap)
  exact q_okH (Y := (l, dC, dI, ac)) hA hw hl hr hst' k
end WrapH

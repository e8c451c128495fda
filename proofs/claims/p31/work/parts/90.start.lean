/-! THE CLAIM OUT OF ONE WALK OF THE LAW'S BODY. Your part is whole_start (and what it stands on); all else here is the same for every law, but numbers. -/
def R_law : String := "TimesheetsLaw"
def lw_P (b : Addr) (xs : List Int32) (args : Array Value) (s : State) : Prop := args = #[.ref b] ∧ s.IntsAt b xs ∧ xs.length ≤ 260 ∧ (Jvm.Cond.and given_1 narrow_1).before args s = true
def lw_Q (_ : Array Value) (s : State) (o : Outcome) (t : State) : Prop := o = .returned (some (.int 1)) ∧ Framed s o t [] 600104 7301314
def lw_Z (below : List Frame) (a : Array Value) (s : State) : State → Prop := fun t => ∃ o, t.status = .running ∧ Ended t below o ∧ lw_Q a s o t
/-- the law's own end, with 1 on the stack, nothing written that was there before, its room as the claim has it -/
theorem lw_ret {p : Program} {l : Launch} {e : Env} {s : State} {m : MethodId} {below : List Frame} {meth : Method} {c : Code} {b : Nat} (hx : p.tables.exec = Jvm.exec) (hb : c.code = code) (hr : meth.sig.returnType = ret) (hlocks : meth.locks = false) {pc : Nat} {H : Heap} {ls : Array Slot} (hdg : decode code pc = .ok (.ireturn, 1)) : W p l e room_1 s m #[Value.ref b] below meth c H [] 600104 7301314 (lw_Z below #[Value.ref b] s) (F0 m pc ls [.int 1]) := by
  intro T hT X
  obtain ⟨fs, hret, hrun, hended, hW, hframe⟩ := X.leave (v := some (.int 1)) (hlocks := hlocks) (fun h => by rw [hr] at h; cases h)
  have hmeth' : T.vm.method? m = some meth := X.method'
  refine ⟨T.setFrames fs, ?_, .returned (some (.int 1)), hrun, hended, rfl, ⟨_, rfl⟩, hW, hframe⟩
  jvm_step X.here [X.here.top, hx, hb, hdg, hmeth', hr, ret, narrow_b1]
  (try refine ⟨rfl, ?_⟩); (try refine ⟨rfl, ?_⟩)
  first | (intro acts; rw [hret _ acts rfl rfl rfl]) | rw [hret _ _ rfl rfl rfl]
  exact Steps.refl _
/-- what holds at the law's entry: the machine, the code, the tables' words (any of lw_tbl by 'hts w (by decide +kernel)'), the script of L ints xs at the cell b, what the Statement gives of the start (any of its parts by flat_of_before) -/
def lw_At (p : Program) (s : State) (m : MethodId) (meth : Method) (c : Code) (b L : Nat) (xs : Nat → Int32) : Prop :=
  p.tables.exec = Jvm.exec ∧ c.code = code ∧ meth.sig.returnType = ret ∧ c.maxLocals = 16 ∧ s.vm.findClass R_law = some m.cls ∧ (∀ w ∈ lw_tbl, w.before #[Value.ref b] s = true) ∧ va_X b L xs s s.heap ∧ b < s.heap.size ∧ meth.locks = false ∧ (Jvm.Cond.and given_1 narrow_1).before #[Value.ref b] s = true
theorem xtra_any {w : Cond} (hx : xtra w = true) {s : State} {args : Array Value} (h : w.before args s = true) : w.before #[] s = true := by
  cases w with
  | declares x => exact va_tabs rfl rfl h
  | castable a b => exact va_tabs rfl rfl h
  | fieldLinkNest a i b n d k => exact va_tabs rfl rfl h
  | methodLinkNest a i x k => exact va_tabs rfl rfl h
  | _ => simp [xtra] at hx
theorem ac_prim {s : State} {args : Array Value} {ty : FieldType} (hp : ∀ C, ty ≠ .object C) (h : (Cond.arrayClass ty).before args s = true) : ∃ cA : ClassId, ArrOfT s cA ty ∧ va_RA s cA ty := by
  obtain ⟨c, k, comp, h1, h2, h3⟩ := Cond.arrayClass_spec h
  refine ⟨c, fun n z => ⟨fun k h => (by cases h), k, h2, comp, h3⟩, ?_⟩
  cases ty with
  | object C => exact absurd rfl (hp C)
  | _ => exact h1
theorem ac_obj {s : State} {C : String} (h : va_AO C s) : ∃ cA : ClassId, ArrOfT s cA (.object C) ∧ va_RA s cA (.object C) := by
  obtain ⟨comp, c, k, h1, h2, h3, h4, h5⟩ := Cond.arrayOver_spec h
  exact ⟨c, fun n z => ⟨fun k h => (by cases h), k, h3, comp, h4⟩, k, comp, h3, h4, h1, h5⟩
theorem tq_perm {X : Cx} {w w' : va_W} {a b pc nL : Nat} {lo : List (Nat × Value)} {st : List Value} (is : List Nat) (hnd : va_nd is = true) (hs : is.map (fun i => w[i]?) = w'.map some) (k : WMl X w' a b pc nL lo st) : WMl X w a b pc nL lo st := by
  obtain ⟨⟨l, dC, dI, ac⟩, p, e, R, s, m, args, below, meth, c, Q, A⟩ := X
  intro H locs ls hw hl
  refine k H locs ls ⟨?_, hw.2.1.sub is hnd hs, hw.2.2⟩ hl
  intro k x hk
  have h1 : (is.map (fun i => w[i]?))[k]? = some (some x) := by rw [hs, List.getElem?_map, hk]; rfl
  rw [List.getElem?_map] at h1
  cases hi : is[k]? with
  | none => rw [hi] at h1; cases h1
  | some i => rw [hi] at h1; exact hw.1 i x (Option.some.inj h1)
/-- ids behind the making of the law's two arrays -/
def aO (o : Nat → Nat) (p1 p2 : Nat) : Nat → Nat := fun k => if k = 0 then 1 else if k = 26 then p1 else if k = 27 then p2 else o k
def aM (M : Mem) : Mem := fun k => if k = 26 then (fun _ => 0) else if k = 27 then (fun _ => 0) else M k
theorem ob_cong {ac : Nat → ClassId} {o o' : Nat → Nat} {hn k : Nat} (f : Nat → Int32) (g : Nat → Int64) (hk : 28 ≤ k) (ho : ∀ j, 28 ≤ j → o' j = o j) : ob ac o' hn k f g = ob ac o hn k f g := by
  have hs : obS ac o' hn = obS ac o hn := by
    unfold obS
    congr 7
    funext j
    rw [ho (46 + 7 * j) (by omega)]
  by_cases h : k < 46
  · have hc : k = 28 ∨ k = 29 ∨ k = 30 ∨ k = 31 ∨ k = 32 ∨ k = 33 ∨ k = 34 ∨ k = 35 ∨ k = 36 ∨ k = 37 ∨ k = 38 ∨ k = 39 ∨ k = 40 ∨ k = 41 ∨ k = 42 ∨ k = 43 ∨ k = 44 ∨ k = 45 := by omega
    rcases hc with rfl | rfl | rfl | rfl | rfl | rfl | rfl | rfl | rfl | rfl | rfl | rfl | rfl | rfl | rfl | rfl | rfl | rfl <;> first | rfl | exact hs | simp [ob, obT, obX, ho]
  · rw [ob_big f g (by omega), ob_big f g (by omega)]
    simp only [obE, obT, obC, ho (k + 1) (by omega), ho (k + 3) (by omega), ho (k + 5) (by omega)]
theorem wd_arr {ac : Nat → ClassId} {o : Nat → Nat} {hn : Nat} {M : Mem} {G : Mel} (p1 p2 : Nat) (h0 : ¬ o 0 = 1) : Wd ac o hn M G ++ [(p1, .inl (ac 0, 21, .inl (fun _ => 0)))] ++ [(p2, .inl (ac 0, 21, .inl (fun _ => 0)))] = Wd ac (aO o p1 p2) hn (aM M) G := by
  have ho : ∀ j, 28 ≤ j → aO o p1 p2 j = o j := fun j hj => by unfold aO; rw [if_neg (by omega), if_neg (by omega), if_neg (by omega)]
  have hM : ∀ j, 28 ≤ j → aM M j = M j := fun j hj => by unfold aM; rw [if_neg (by omega), if_neg (by omega)]
  unfold Wd
  rw [if_neg h0, if_pos (show aO o p1 p2 0 = 1 from rfl), List.append_nil, List.append_assoc]
  have e : (List.range (18 + 7 * hn)).map (fun k => (o (k + 28), ob ac o hn (k + 28) (M (k + 28)) (G (k + 28)))) = (List.range (18 + 7 * hn)).map (fun k => (aO o p1 p2 (k + 28), ob ac (aO o p1 p2) hn (k + 28) (aM M (k + 28)) (G (k + 28)))) := by
    refine List.map_congr_left (fun k _ => ?_)
    rw [ho (k + 28) (by omega), hM (k + 28) (by omega), ob_cong _ _ (by omega) ho]
  rw [e]
  rfl
theorem obS_0 {ac : Nat → ClassId} {o : Nat → Nat} : obS ac o 0 = .inl (ac 3, 6, .inr (.inr (.inr (.inr (fun _ => none))))) := by
  have h : (fun j => if j < 0 then some (o (46 + 7 * j)) else none) = (fun _ : Nat => (none : Option Nat)) := by
    funext j
    simp
  simp only [obS, h]
theorem tq_astore {X : Cx} {own : String} {cc : ByteArray} {nL fr lc mc ms : Nat} {rt : Option FieldType} {w : va_W} {a b pc : Nat} {lo : List (Nat × Value)} {st : List Value} (hX : CxOK X own cc nL fr lc mc ms rt) {i x : Nat} {lo' : List (Nat × Value)} (ks : List Nat) (hn' : i < nL) (hl' : lv_pick ((i, Value.ref x) :: lo.filter (fun q => !(q.1 == i) && !(q.1 + 1 == i && q.2.category == 2))) ks = lo') (d : decode cc pc = .ok (.astore i, 2)) (k : WMl X w a b (pc + 2) nL lo' st) : WMl X w a b pc nL lo (.ref x :: st) := by
  obtain ⟨⟨l, dC, dI, ac⟩, p, e, R, s, m, args, below, meth, c, Q, A⟩ := X
  obtain ⟨hR, hx, hb, hml, hown, hts, hK, hA, hMF, hrt, hlk, htr⟩ := hX
  intro H locs ls hw hl
  exact lv_astore hx hb d hl hn' rfl (fun ls2 hl2 => k H locs ls2 hw (lv_sub hl2 ks hl'))
/-- what the law's first numbers are, and its memory behind its making of things -/
def LawOK (L : Nat) (xs : Nat → Int32) : Prop := ∃ (v r : Int32) (p : Int32 × Mem), s_L_cell L xs 0 = some v ∧ s_L_low v 9000 = some r ∧ s_X6_requireWithin (1 + r) 1 100000 = some 0 ∧ s_L_law1 L xs (hM (fun _ _ => 0) 46 (1 + r)) = some p ∧ s_L_law2 L xs (aM p.2) (hG (fun _ _ => 0) 46) 1 (1 + r) p.1 = some ()
set_option maxHeartbeats 4000000 in
set_option maxRecDepth 100000 in
/-- the law from its first step to its last -/
theorem law_first {X : Cx} (hX : CxOK X RL cL_law 16 12 454 600104 7301314 (some .boolean)) {b L : Nat} {xs : Nat → Int32} (hS : ScrOK X b L xs) (hI : LawOK L xs)
    (hend : ∀ (o : Nat → Nat) (hn : Nat) (M : Mem) (G : Mel) (lo : List (Nat × Value)), WM X o hn M G 600104 7301314 463 16 lo [.int 1]) :
    WMl X [] 0 0 0 16 [(0, .ref b)] [] := by
  obtain ⟨v, r, p, h1, h2, h3, h4, h5⟩ := hI
  refine tq_new (pc := 0) (ci := 6) (fs := [.null, .int 0, .null, .null, .null, .null]) (C := RX6) (T := TX6) (N := 6) (ty := tyX6) hX in_X6 tyX6_ok kw_0 kw_1 kw_2 rfl (by decide +kernel) (Nat.le_of_ble_eq_true rfl) (Nat.le_of_ble_eq_true rfl) dL_law_0 (fun p0 => ?_)
  change WMl X [(p0, .inr (6, [.null, .int 0, .null, .null, .null, .null]))] _ _ _ _ _ _
  refine tq_dup (pc := 3) hX rfl dL_law_3 ?_
  refine tq_ctor (pc := 4) (As := []) (w := [(p0, .inr (6, [.null, .int 0, .null, .null, .null, .null]))]) (wr := []) (sts := [.ref p0, .ref p0]) hX (c_X6_init (h0 := p0)) [0] [] rfl rfl rfl rfl (by decide) kw_4 kw_5 kw_2 kw_6 rfl ⟨by decide +kernel, by decide +kernel⟩ pd_yX6_init rfl ⟨by decide, by decide⟩ ⟨Nat.le_of_ble_eq_true rfl, Nat.le_of_ble_eq_true rfl⟩ rfl (Nat.le_of_ble_eq_true rfl) dL_law_4 (fun q4 => ?_)
  change WMl X [(p0, .inr (6, [.ref (q4 0), .int 0, .ref (q4 1), .ref (q4 4), .ref (q4 5), .ref (q4 6)])), ((q4 0), .inl (X.1.2.2.2 3, 6, .inr (.inr (.inr (.inr (fun _ => none)))))), ((q4 1), .inr (2, [.ref (q4 2)])), ((q4 2), .inr (4, [.int 4, .ref (q4 3), .int 0])), ((q4 3), .inl (X.1.2.2.2 0, 24, .inl (fun _ => 0))), ((q4 4), .inr (1, [.ref (q4 5), .ref (q4 13), .ref (q4 15)])), ((q4 5), .inr (5, [.ref (q4 6), .ref (q4 9), .ref (q4 11), .int 0])), ((q4 6), .inr (3, [.ref (q4 7), .int 0])), ((q4 7), .inr (4, [.int 2, .ref (q4 8), .int 0])), ((q4 8), .inl (X.1.2.2.2 0, 80, .inl (fun _ => 0))), ((q4 9), .inr (4, [.int 3, .ref (q4 10), .int 0])), ((q4 10), .inl (X.1.2.2.2 0, 480, .inl (fun _ => 0))), ((q4 11), .inr (4, [.int 2, .ref (q4 12), .int 0])), ((q4 12), .inl (X.1.2.2.2 0, 160, .inl (fun _ => 0))), ((q4 13), .inr (4, [.int 2, .ref (q4 14), .int 0])), ((q4 14), .inl (X.1.2.2.2 0, 320, .inl (fun _ => 0))), ((q4 15), .inr (4, [.int 3, .ref (q4 16), .int 0])), ((q4 16), .inl (X.1.2.2.2 0, 564, .inl (fun _ => 0)))] _ _ _ _ _ _
  refine tq_astore_n (pc := 7) (lo' := [(0, .ref b), (1, .ref p0)]) hX [1, 0] rfl (by decide) rfl dL_law_7 ?_
  obtain ⟨o, eo⟩ : ∃ o : Nat → Nat, o = (fun id => if id = 0 then 0 else [p0, (q4 0), (q4 1), (q4 2), (q4 3), (q4 4), (q4 13), (q4 14), (q4 15), (q4 16), (q4 5), (q4 9), (q4 10), (q4 11), (q4 12), (q4 6), (q4 7), (q4 8)].getD (id - 28) 0) := ⟨_, rfl⟩
  have ho0 : ¬ o 0 = 1 := by subst eo; exact (show ¬ (0 : Nat) = 1 by decide)
  have ho28 : p0 = o 28 := by subst eo; rfl
  refine tq_perm (w' := Wd X.1.2.2.2 o 0 (fun _ _ => 0) (fun _ _ => 0)) [0, 1, 2, 3, 4, 5, 14, 15, 16, 17, 6, 10, 11, 12, 13, 7, 8, 9] rfl ?_ ?_
  · unfold Wd
    rw [if_neg ho0, List.append_nil, show List.range (18 + 7 * 0) = [0, 1, 2, 3, 4, 5, 6, 7, 8, 9, 10, 11, 12, 13, 14, 15, 16, 17] from rfl]
    subst eo
    simp only [List.map_cons, List.map_nil, ob, obS_0]
    rfl
  · rw [ho28]
    refine WM_of ?_
    refine q_iconst (pc := 8) hX (1) rfl dL_law_8 ?_
    refine q_aload_n (pc := 9) hX 0 rfl rfl dL_law_9 ?_
    refine q_iconst (pc := 10) hX (0) rfl dL_law_10 ?_
    refine q_cell (pc := 11) hX hS h1 (Nat.le_of_ble_eq_true rfl) (Nat.le_of_ble_eq_true rfl) (Nat.le_of_ble_eq_true rfl) (Nat.le_of_ble_eq_true rfl) (Nat.le_of_ble_eq_true rfl) dL_law_11 ?_
    refine q_sipush (pc := 14) hX (9000) (by decide) dL_law_14 ?_
    refine q_callS (pc := 17) (As := [.int v, .int 9000]) (rest := [.int 1]) (rv := some (.int r)) (st' := [.int r, .int 1]) hX (c_L_low h2) (sl_L_58) pd_yL_low rfl ⟨by decide, by decide⟩ ⟨Nat.le_of_ble_eq_true rfl, Nat.le_of_ble_eq_true rfl⟩ rfl (Nat.le_of_ble_eq_true rfl) rfl dL_law_17 ?_
    refine q_iadd (pc := 20) hX dL_law_20 ?_
    refine q_istore_n (pc := 21) (lo' := [(0, .ref b), (1, .ref (o 28)), (2, .int (1 + r))]) hX [1, 2, 0] rfl (by decide) rfl dL_law_21 ?_
    refine q_aload_n (pc := 22) hX 1 rfl rfl dL_law_22 ?_
    refine q_iload_n (pc := 23) hX 2 rfl rfl dL_law_23 ?_
    refine q_callVH (pc := 24) (id := 28) (As := [.int (1 + r)]) (rest := []) (st' := [.int (nI 0)]) hX (c_X6_hire_ok ho0 h3) (vl_L_61) (lt46 (by decide)) rfl rfl rfl pd_yX6_hire rfl ⟨by decide, by decide⟩ ⟨Nat.le_of_ble_eq_true rfl, Nat.le_of_ble_eq_true rfl⟩ rfl (Nat.le_of_ble_eq_true rfl) rfl dL_law_24 (fun o' ho' => ?_)
    have e28 : o 28 = o' 28 := (ho' 28 (by decide)).symm
    have ho0' : ¬ o' 0 = 1 := by rw [ho' 0 (by decide)]; exact ho0
    rw [e28]
    refine q_pop (pc := 27) hX rfl dL_law_27 ?_
    refine q_widen (k := 600102) (n := 7301272) (Nat.le_of_ble_eq_true rfl) (Nat.le_of_ble_eq_true rfl) ?_
    refine g_s_L_law1 hX hS h4 ?_
    refine WMl_of ?_
    refine tq_bipush (pc := 126) hX (21) (by decide) dL_law_126 ?_
    refine tq_newa (atype := .int) (ty := .int) (pc := 128) (N' := 21) (a0 := (21, .inl (fun _ => 0))) hX 0 rfl (fun C h => by cases h) rfl kw_3 (fun _ => rfl) (by decide) (by decide +kernel) (by decide +kernel) (Nat.le_of_ble_eq_true rfl) (Nat.le_of_ble_eq_true rfl) dL_law_128 (fun p1 => ?_)
    refine tq_astore (pc := 130) (lo' := [(0, .ref b), (1, .ref (o' 28)), (2, .int (1 + r)), (3, .int p.1), (4, .ref p1)]) hX [1, 2, 3, 4, 0] (by decide) rfl dL_law_130 ?_
    refine tq_bipush (pc := 132) hX (21) (by decide) dL_law_132 ?_
    refine tq_newa (atype := .int) (ty := .int) (pc := 134) (N' := 21) (a0 := (21, .inl (fun _ => 0))) hX 0 rfl (fun C h => by cases h) rfl kw_3 (fun _ => rfl) (by decide) (by decide +kernel) (by decide +kernel) (Nat.le_of_ble_eq_true rfl) (Nat.le_of_ble_eq_true rfl) dL_law_134 (fun p2 => ?_)
    refine tq_astore (pc := 136) (lo' := [(0, .ref b), (1, .ref (o' 28)), (2, .int (1 + r)), (3, .int p.1), (4, .ref p1), (5, .ref p2)]) hX [1, 2, 3, 4, 5, 0] (by decide) rfl dL_law_136 ?_
    rw [wd_arr p1 p2 ho0']
    exact WM_of (g_s_L_law2 (o := aO o' p1 p2) hX hS rfl h5 (fun M' G' lo => hend _ _ _ _ _))
set_option maxHeartbeats 4000000 in
set_option maxRecDepth 100000 in
/-- THE LAW, from its entry -/
theorem whole_from {p : Program} {e : Env} {s : State} {m : MethodId} {below : List Frame} {meth : Method} {c : Code} (l : Launch) (hflags : l.flags = flags0) {b L : Nat} {xs : Nat → Int32} (hI : LawOK L xs) (C0 : lw_At p s m meth c b L xs) : W p l e room_1 s m #[Value.ref b] below meth c s.heap [] 0 0 (lw_Z below #[Value.ref b] s) (entryFrame m ([Value.ref b] : List Value).toArray 16) := by
  obtain ⟨hx, hb, hr, hml, hown, hts, hXb, hbl, hlocks, hgv⟩ := id C0
  have htr : l.stackTraces = false := by unfold Launch.stackTraces; rw [hflags]; decide +kernel
  have htB : ∀ w ∈ BG, w.before #[Value.ref b] s = true := fun w hw => hts w (BG_in w hw)
  obtain ⟨c0, i0, K0⟩ := u_known (C := RX0) (T := TX0) (N := 6) (n := 6) htB in_X0 (htB _ kw_86)
  obtain ⟨c1, i1, K1⟩ := u_known (C := RX1) (T := TX1) (N := 3) (n := 3) htB in_X1 (htB _ kw_18)
  obtain ⟨c2, i2, K2⟩ := u_known (C := RX2) (T := TX2) (N := 1) (n := 1) htB in_X2 (htB _ kw_14)
  obtain ⟨c3, i3, K3⟩ := u_known (C := RX3) (T := TX3) (N := 2) (n := 2) htB in_X3 (htB _ kw_54)
  obtain ⟨c4, i4, K4⟩ := u_known (C := RX4) (T := TX4) (N := 3) (n := 3) htB in_X4 (htB _ kw_28)
  obtain ⟨c5, i5, K5⟩ := u_known (C := RX5) (T := TX5) (N := 4) (n := 4) htB in_X5 (htB _ kw_43)
  obtain ⟨c6, i6, K6⟩ := u_known (C := RX6) (T := TX6) (N := 6) (n := 6) htB in_X6 (htB _ kw_1)
  have hMF : MF (fun q : Nat => s.heap.size ≤ q) s s.heap := ⟨fun w hw hx => xtra_any hx (hts w hw), va_AO.of (A := #[Value.ref b]) (hts _ (tb_in_1 (List.mem_of_getElem? (l := tables_1_1) (i := 24) rfl)))⟩
  obtain ⟨a0, A0, B0⟩ := ac_prim (ty := .int) (fun C h => by cases h) (htB _ kw_3)
  obtain ⟨a3, A3, B3⟩ := ac_obj hMF.2
  obtain ⟨dC, dI, hKc⟩ : ∃ (dC : Nat → ClassId) (dI : Nat → Nat → Nat), ∀ (k : Nat) (q : vw_C), vwCl[k]? = some q → u_Kn s q.1 q.2.1 q.2.2 (dC k) (dI k) := by
    refine ⟨fun k => if k = 0 then c0 else if k = 1 then c1 else if k = 2 then c2 else if k = 3 then c3 else if k = 4 then c4 else if k = 5 then c5 else c6, fun k => if k = 0 then i0 else if k = 1 then i1 else if k = 2 then i2 else if k = 3 then i3 else if k = 4 then i4 else if k = 5 then i5 else i6, ?_⟩
    intro k q hq
    match k, hq with
    | 0, hq => cases hq; exact K0
    | 1, hq => cases hq; exact K1
    | 2, hq => cases hq; exact K2
    | 3, hq => cases hq; exact K3
    | 4, hq => cases hq; exact K4
    | 5, hq => cases hq; exact K5
    | 6, hq => cases hq; exact K6
    | k + 7, hq => simp [vwCl] at hq
  obtain ⟨ac, hac⟩ : ∃ ac : Nat → ClassId, ∀ (k : Nat) (q : ClassId × FieldType), (tysL ac)[k]? = some q → ArrOfT s q.1 q.2 ∧ va_RA s q.1 q.2 := by
    refine ⟨fun k => if k = 0 then a0 else a3, ?_⟩
    intro k q hq
    match k, hq with
    | 0, hq => cases hq; exact ⟨A0, B0⟩
    | 1, hq => cases hq; exact ⟨A3, B3⟩
    | k + 2, hq => simp [tysL] at hq
  have hX : CxOK ((l, dC, dI, ac), p, e, room_1, s, m, #[Value.ref b], below, meth, c, lw_Z below #[Value.ref b] s, fun q : Nat => s.heap.size ≤ q) RL cL_law 16 12 454 600104 7301314 (some .boolean) := ⟨rfl, hx, hb, hml, hown, htB, ⟨hKc, hac⟩, fun _ h => h, hMF, hr, hlocks, htr⟩
  have hS : ScrOK ((l, dC, dI, ac), p, e, room_1, s, m, #[Value.ref b], below, meth, c, lw_Z below #[Value.ref b] s, fun q : Nat => s.heap.size ≤ q) b L xs := ⟨hXb, hbl, Nat.not_le.mpr hbl⟩
  have K := law_first hX hS hI (fun o hn M G lo => by
    intro H locs ls hw hl
    exact va_forget (fun q hq => hw.2.2.2.2 q hq) (lw_ret hx hb hr hlocks dL_law_463))
  have hl := lv_entry ([.ref b]) (n := 16) (Nat.le_of_ble_eq_true rfl)
  rw [lg_entry_eq]
  exact K s.heap [] _ ⟨fun k q h => by simp at h, ⟨fun i j p q h => by simp at h, fun k q h => by simp at h⟩, va_S.rf⟩ hl

/-! THE CLAIM OUT OF ONE WALK OF THE LAW'S BODY. Your part is whole_start (and what it stands on); all else here is the same for every law, but numbers. -/
def R_law : String := "TimesheetsLaw"
def lw_P (b : Addr) (xs : List Int32) (args : Array Value) (s : State) : Prop := args = #[.ref b] ∧ s.IntsAt b xs ∧ xs.length ≤ 2560 ∧ (Jvm.Cond.and given_1 narrow_1).before args s = true
def lw_Q (_ : Array Value) (s : State) (o : Outcome) (t : State) : Prop := o = .returned (some (.int 1)) ∧ Framed s o t [] 601024 7293034
def lw_Z (below : List Frame) (a : Array Value) (s : State) : State → Prop := fun t => ∃ o, t.status = .running ∧ Ended t below o ∧ lw_Q a s o t
/-- the law's own end, with 1 on the stack, nothing written that was there before, its room as the claim has it -/
theorem lw_ret {p : Program} {l : Launch} {e : Env} {s : State} {m : MethodId} {below : List Frame} {meth : Method} {c : Code} {b : Nat} (hx : p.tables.exec = Jvm.exec) (hb : c.code = code) (hr : meth.sig.returnType = ret) (hlocks : meth.locks = false) {pc : Nat} {H : Heap} {ls : Array Slot} (hdg : decode code pc = .ok (.ireturn, 1)) : W p l e room_1 s m #[Value.ref b] below meth c H [] 601024 7293034 (lw_Z below #[Value.ref b] s) (F0 m pc ls [.int 1]) := by
  intro T hT X
  obtain ⟨fs, hret, hrun, hended, hW, hframe⟩ := X.leave (v := some (.int 1)) (hlocks := hlocks) (fun h => by rw [hr] at h; cases h)
  have hmeth' : T.vm.method? m = some meth := X.method'
  refine ⟨T.setFrames fs, ?_, .returned (some (.int 1)), hrun, hended, rfl, ⟨_, rfl⟩, hW, hframe⟩
  jvm_step X.here [X.here.top, hx, hb, hdg, hmeth', hr, ret, narrow_b1]
  (try refine ⟨rfl, ?_⟩); (try refine ⟨rfl, ?_⟩)
  first | (intro acts; rw [hret _ acts rfl rfl rfl]) | rw [hret _ _ rfl rfl rfl]
  exact Steps.refl _
/-- what holds at the law's entry: the machine, the code, the tables' words (any of lw_tbl by 'hts w (by decide +kernel)'), the script of L ints xs at the cell b, what the Statement gives of the start (any of its parts by flat_of_before) -/
def lw_At (p : Program) (s : State) (m : MethodId) (meth : Method) (c : Code) (b L : Nat) (xs : Nat → Int32) : Prop :=
  p.tables.exec = Jvm.exec ∧ c.code = code ∧ meth.sig.returnType = ret ∧ c.maxLocals = 8 ∧ s.vm.findClass R_law = some m.cls ∧ (∀ w ∈ lw_tbl, w.before #[Value.ref b] s = true) ∧ va_X b L xs s s.heap ∧ b < s.heap.size ∧ meth.locks = false ∧ (Jvm.Cond.and given_1 narrow_1).before #[Value.ref b] s = true

theorem xtra_any {w : Cond} (hx : xtra w = true) {s : State} {args : Array Value} (h : w.before args s = true) : w.before #[] s = true := by
  cases w with
  | declares x => exact va_tabs rfl rfl h
  | castable a b => exact va_tabs rfl rfl h
  | fieldLinkNest a i b n d k => exact va_tabs rfl rfl h
  | methodLinkNest a i x k => exact va_tabs rfl rfl h
  | _ => simp [xtra] at hx
theorem ac_prim {s : State} {args : Array Value} {ty : FieldType} (hp : ∀ C, ty ≠ .object C) (h : (Cond.arrayClass ty).before args s = true) : ∃ cA : ClassId, ArrOfT s cA ty ∧ va_RA s cA ty := by
  obtain ⟨c, k, comp, h1, h2, h3⟩ := Cond.arrayClass_spec h
  refine ⟨c, fun n z => ⟨fun k h => (by cases h), k, h2, comp, h3⟩, ?_⟩
  cases ty with
  | object C => exact absurd rfl (hp C)
  | _ => exact h1
theorem ac_obj {s : State} {C : String} (h : va_AO C s) : ∃ cA : ClassId, ArrOfT s cA (.object C) ∧ va_RA s cA (.object C) := by
  obtain ⟨comp, c, k, h1, h2, h3, h4, h5⟩ := Cond.arrayOver_spec h
  exact ⟨c, fun n z => ⟨fun k h => (by cases h), k, h3, comp, h4⟩, k, comp, h3, h4, h1, h5⟩
theorem mf_start {s : State} {args : Array Value} (hts : ∀ w ∈ lw_tbl, w.before args s = true) (hgv : (Jvm.Cond.and given_1 narrow_1).before args s = true) : MF (fun q : Nat => s.heap.size ≤ q) s s.heap := by
  have hf := flat_of_before _ hgv
  refine ⟨fun w hw hx => xtra_any hx (hts w hw), fun q hq => ?_, fun q hq => ?_, ?_, ?_, ?_⟩
  · have hq2 : Cond.stringRef RX6 q.1 q.2 ∈ lw_tbl ∧ Cond.exactly (.string RX6 q.1) "java/lang/String" ∈ flatC (Jvm.Cond.and given_1 narrow_1) := by
      simp only [strL, List.mem_cons, List.not_mem_nil, or_false] at hq
      rcases hq with rfl | rfl | rfl | rfl | rfl | rfl | rfl | rfl
      · exact ⟨(tb_in_1 (List.mem_of_getElem? (l := tables_1_1) (i := 196) rfl)), by decide +kernel⟩
      · exact ⟨(tb_in_1 (List.mem_of_getElem? (l := tables_1_1) (i := 232) rfl)), by decide +kernel⟩
      · exact ⟨(tb_in_2 (List.mem_of_getElem? (l := tables_1_2) (i := 55) rfl)), by decide +kernel⟩
      · exact ⟨(tb_in_2 (List.mem_of_getElem? (l := tables_1_2) (i := 76) rfl)), by decide +kernel⟩
      · exact ⟨(tb_in_2 (List.mem_of_getElem? (l := tables_1_2) (i := 87) rfl)), by decide +kernel⟩
      · exact ⟨(tb_in_2 (List.mem_of_getElem? (l := tables_1_2) (i := 113) rfl)), by decide +kernel⟩
      · exact ⟨(tb_in_2 (List.mem_of_getElem? (l := tables_1_2) (i := 153) rfl)), by decide +kernel⟩
      · exact ⟨(tb_in_2 (List.mem_of_getElem? (l := tables_1_2) (i := 196) rfl)), by decide +kernel⟩
    obtain ⟨a, c, cell, k, q1, -⟩ := Cond.exactly_spec (hf _ hq2.2)
    have h1 := hts _ hq2.1
    have h2 : (Term.string RX6 q.1).eval args s none [] s = some (.ref a) := q1
    exact ⟨a, h1, h2⟩
  · refine va_Nc.of (args := args) (hf _ ?_)
    simp only [ncL, List.mem_cons, List.not_mem_nil, or_false] at hq
    rcases hq with rfl | rfl | rfl | rfl | rfl | rfl | rfl | rfl | rfl | rfl | rfl | rfl <;> decide +kernel
  · exact vx_Zqof (hts _ (tb_in_1 (List.mem_of_getElem? (l := tables_1_1) (i := 181) rfl))) (hts _ (tb_in_1 (List.mem_of_getElem? (l := tables_1_1) (i := 8) rfl))) (hf _ (by decide +kernel)) (fun a h1 h2 => absurd h1 (Nat.not_lt.mpr h2))
  · exact vx_Zqof (hts _ (tb_in_1 (List.mem_of_getElem? (l := tables_1_1) (i := 183) rfl))) (hts _ (tb_in_1 (List.mem_of_getElem? (l := tables_1_1) (i := 8) rfl))) (hf _ (by decide +kernel)) (fun a h1 h2 => absurd h1 (Nat.not_lt.mpr h2))
  · exact va_AO.of (A := args) (hts _ (tb_in_1 (List.mem_of_getElem? (l := tables_1_1) (i := 26) rfl)))
theorem tq_perm {X : Cx} {w w' : va_W} {a b pc nL : Nat} {lo : List (Nat × Value)} {st : List Value} (is : List Nat) (hnd : va_nd is = true) (hs : is.map (fun i => w[i]?) = w'.map some) (k : WMl X w' a b pc nL lo st) : WMl X w a b pc nL lo st := by
  obtain ⟨⟨l, dC, dI, ac⟩, p, e, R, s, m, args, below, meth, c, Q, A⟩ := X
  intro H locs ls hw hl
  refine k H locs ls ⟨?_, hw.2.1.sub is hnd hs, hw.2.2⟩ hl
  intro k x hk
  have h1 : (is.map (fun i => w[i]?))[k]? = some (some x) := by rw [hs, List.getElem?_map, hk]; rfl
  rw [List.getElem?_map] at h1
  cases hi : is[k]? with
  | none => rw [hi] at h1; cases h1
  | some i => rw [hi] at h1; exact hw.1 i x (Option.some.inj h1)
theorem tq_istore {X : Cx} {own : String} {cc : ByteArray} {nL fr lc mc ms : Nat} {rt : Option FieldType} {w : va_W} {a b pc : Nat} {lo : List (Nat × Value)} {st : List Value} (hX : CxOK X own cc nL fr lc mc ms rt) {i : Nat} {x : Int32} {lo' : List (Nat × Value)} (ks : List Nat) (hn' : i < nL) (hl' : lv_pick ((i, Value.int x) :: lo.filter (fun q => !(q.1 == i) && !(q.1 + 1 == i && q.2.category == 2))) ks = lo') (d : decode cc pc = .ok (.istore i, 2)) (k : WMl X w a b (pc + 2) nL lo' st) : WMl X w a b pc nL lo (.int x :: st) := by
  obtain ⟨⟨l, dC, dI, ac⟩, p, e, R, s, m, args, below, meth, c, Q, A⟩ := X
  obtain ⟨hR, hx, hb, hml, hown, hts, hK, hA, hMF, hrt, hlk, htr⟩ := hX
  intro H locs ls hw hl
  exact lv_istore hx hb d hl hn' rfl (fun ls2 hl2 => k H locs ls2 hw (lv_sub hl2 ks hl'))
theorem obS_0 {ac : Nat → ClassId} {o : Nat → Nat} : obS ac o 0 = .inl (ac 3, 6, .inr (.inr (.inr (.inr (fun _ => none))))) := by
  have h : (fun j => if j < 0 then some (o (46 + 7 * j)) else none) = (fun _ : Nat => (none : Option Nat)) := by
    funext j
    simp
  simp only [obS, h]
set_option maxHeartbeats 4000000 in
set_option maxRecDepth 100000 in
/-- the law's first steps: the class, the model, the place for a long; then its loop -/
theorem law_first {X : Cx} (hX : CxOK X RL cL_law 8 12 436 601024 7293034 (some .boolean)) {b L : Nat} {xs : Nat → Int32} (hS : ScrOK X b L xs) (hL : L ≤ 2560) {I : Nat → Mem → Mel → Prop} (hI : PStep I) (h0 : I 0 (fun _ _ => 0) (fun _ _ => 0))
    (hend : ∀ (o : Nat → Nat) (hn : Nat) (M : Mem) (G : Mel) (x4 : Int32), WM X o hn M G 601024 7293034 1981 8 [(0, .ref b), (1, .ref (o 28)), (2, .ref (o 1)), (3, .ref (o 0)), (4, .int x4)] []) :
    WMl X [] 0 0 0 8 [(0, .ref b)] [] := by
  refine tq_new (pc := 0) (ci := 6) (fs := [.null, .int 0, .null, .null, .null, .null]) (C := RX6) (T := TX6) (N := 6) (ty := tyX6) hX in_X6 tyX6_ok kw_0 kw_1 kw_2 rfl (by decide +kernel) (Nat.le_of_ble_eq_true rfl) (Nat.le_of_ble_eq_true rfl) dL_law_0 (fun p0 => ?_)
  change WMl X [(p0, .inr (6, [.null, .int 0, .null, .null, .null, .null]))] _ _ _ _ _ _
  refine tq_dup (pc := 3) hX rfl dL_law_3 ?_
  refine tq_ctor (pc := 4) (As := []) (w := [(p0, .inr (6, [.null, .int 0, .null, .null, .null, .null]))]) (wr := []) (sts := [.ref p0, .ref p0]) hX (c_X6_init (h0 := p0)) [0] [] rfl rfl rfl rfl (by decide) kw_7 kw_8 kw_2 kw_9 rfl ⟨by decide +kernel, by decide +kernel⟩ pd_yX6_init rfl ⟨by decide, by decide⟩ ⟨Nat.le_of_ble_eq_true rfl, Nat.le_of_ble_eq_true rfl⟩ rfl (Nat.le_of_ble_eq_true rfl) dL_law_4 (fun q4 => ?_)
  change WMl X [(p0, .inr (6, [.ref (q4 0), .int 0, .ref (q4 1), .ref (q4 4), .ref (q4 5), .ref (q4 6)])), ((q4 0), .inl (X.1.2.2.2 3, 6, .inr (.inr (.inr (.inr (fun _ => none)))))), ((q4 1), .inr (2, [.ref (q4 2)])), ((q4 2), .inr (4, [.int 4, .ref (q4 3), .int 0])), ((q4 3), .inl (X.1.2.2.2 0, 24, .inl (fun _ => 0))), ((q4 4), .inr (1, [.ref (q4 5), .ref (q4 13), .ref (q4 15)])), ((q4 5), .inr (5, [.ref (q4 6), .ref (q4 9), .ref (q4 11), .int 0])), ((q4 6), .inr (3, [.ref (q4 7), .int 0])), ((q4 7), .inr (4, [.int 2, .ref (q4 8), .int 0])), ((q4 8), .inl (X.1.2.2.2 0, 80, .inl (fun _ => 0))), ((q4 9), .inr (4, [.int 3, .ref (q4 10), .int 0])), ((q4 10), .inl (X.1.2.2.2 0, 480, .inl (fun _ => 0))), ((q4 11), .inr (4, [.int 2, .ref (q4 12), .int 0])), ((q4 12), .inl (X.1.2.2.2 0, 160, .inl (fun _ => 0))), ((q4 13), .inr (4, [.int 2, .ref (q4 14), .int 0])), ((q4 14), .inl (X.1.2.2.2 0, 320, .inl (fun _ => 0))), ((q4 15), .inr (4, [.int 3, .ref (q4 16), .int 0])), ((q4 16), .inl (X.1.2.2.2 0, 564, .inl (fun _ => 0)))] _ _ _ _ _ _
  refine tq_astore_n (pc := 7) (lo' := [(1, .ref p0), (0, .ref b)]) hX [0, 1] rfl (by decide) rfl dL_law_7 ?_
  refine tq_new (pc := 8) (ci := 7) (fs := [.int 0, .int 0, .null, .null, .null, .null, .null, .null, .null, .null, .null, .null, .null, .null, .int 0, .null, .null, .null, .null, .int 0, .int 0, .null, .null, .null, .null, .null, .null, .null, .null, .null, .null, .int 0, .int 0, .int 0]) (C := RX7) (T := TX7) (N := 34) (ty := tyX7) hX in_X7 tyX7_ok kw_3 kw_4 kw_5 rfl (by decide +kernel) (Nat.le_of_ble_eq_true rfl) (Nat.le_of_ble_eq_true rfl) dL_law_8 (fun p8 => ?_)
  change WMl X [(p0, .inr (6, [.ref (q4 0), .int 0, .ref (q4 1), .ref (q4 4), .ref (q4 5), .ref (q4 6)])), ((q4 0), .inl (X.1.2.2.2 3, 6, .inr (.inr (.inr (.inr (fun _ => none)))))), ((q4 1), .inr (2, [.ref (q4 2)])), ((q4 2), .inr (4, [.int 4, .ref (q4 3), .int 0])), ((q4 3), .inl (X.1.2.2.2 0, 24, .inl (fun _ => 0))), ((q4 4), .inr (1, [.ref (q4 5), .ref (q4 13), .ref (q4 15)])), ((q4 5), .inr (5, [.ref (q4 6), .ref (q4 9), .ref (q4 11), .int 0])), ((q4 6), .inr (3, [.ref (q4 7), .int 0])), ((q4 7), .inr (4, [.int 2, .ref (q4 8), .int 0])), ((q4 8), .inl (X.1.2.2.2 0, 80, .inl (fun _ => 0))), ((q4 9), .inr (4, [.int 3, .ref (q4 10), .int 0])), ((q4 10), .inl (X.1.2.2.2 0, 480, .inl (fun _ => 0))), ((q4 11), .inr (4, [.int 2, .ref (q4 12), .int 0])), ((q4 12), .inl (X.1.2.2.2 0, 160, .inl (fun _ => 0))), ((q4 13), .inr (4, [.int 2, .ref (q4 14), .int 0])), ((q4 14), .inl (X.1.2.2.2 0, 320, .inl (fun _ => 0))), ((q4 15), .inr (4, [.int 3, .ref (q4 16), .int 0])), ((q4 16), .inl (X.1.2.2.2 0, 564, .inl (fun _ => 0))), (p8, .inr (7, [.int 0, .int 0, .null, .null, .null, .null, .null, .null, .null, .null, .null, .null, .null, .null, .int 0, .null, .null, .null, .null, .int 0, .int 0, .null, .null, .null, .null, .null, .null, .null, .null, .null, .null, .int 0, .int 0, .int 0]))] _ _ _ _ _ _
  refine tq_dup (pc := 11) hX rfl dL_law_11 ?_
  refine tq_ctor (pc := 12) (a := 19) (b := 1702) (As := []) (w := [(p0, .inr (6, [.ref (q4 0), .int 0, .ref (q4 1), .ref (q4 4), .ref (q4 5), .ref (q4 6)])), ((q4 0), .inl (X.1.2.2.2 3, 6, .inr (.inr (.inr (.inr (fun _ => none)))))), ((q4 1), .inr (2, [.ref (q4 2)])), ((q4 2), .inr (4, [.int 4, .ref (q4 3), .int 0])), ((q4 3), .inl (X.1.2.2.2 0, 24, .inl (fun _ => 0))), ((q4 4), .inr (1, [.ref (q4 5), .ref (q4 13), .ref (q4 15)])), ((q4 5), .inr (5, [.ref (q4 6), .ref (q4 9), .ref (q4 11), .int 0])), ((q4 6), .inr (3, [.ref (q4 7), .int 0])), ((q4 7), .inr (4, [.int 2, .ref (q4 8), .int 0])), ((q4 8), .inl (X.1.2.2.2 0, 80, .inl (fun _ => 0))), ((q4 9), .inr (4, [.int 3, .ref (q4 10), .int 0])), ((q4 10), .inl (X.1.2.2.2 0, 480, .inl (fun _ => 0))), ((q4 11), .inr (4, [.int 2, .ref (q4 12), .int 0])), ((q4 12), .inl (X.1.2.2.2 0, 160, .inl (fun _ => 0))), ((q4 13), .inr (4, [.int 2, .ref (q4 14), .int 0])), ((q4 14), .inl (X.1.2.2.2 0, 320, .inl (fun _ => 0))), ((q4 15), .inr (4, [.int 3, .ref (q4 16), .int 0])), ((q4 16), .inl (X.1.2.2.2 0, 564, .inl (fun _ => 0))), (p8, .inr (7, [.int 0, .int 0, .null, .null, .null, .null, .null, .null, .null, .null, .null, .null, .null, .null, .int 0, .null, .null, .null, .null, .int 0, .int 0, .null, .null, .null, .null, .null, .null, .null, .null, .null, .null, .int 0, .int 0, .int 0]))]) (wr := [(p0, .inr (6, [.ref (q4 0), .int 0, .ref (q4 1), .ref (q4 4), .ref (q4 5), .ref (q4 6)])), ((q4 0), .inl (X.1.2.2.2 3, 6, .inr (.inr (.inr (.inr (fun _ => none)))))), ((q4 1), .inr (2, [.ref (q4 2)])), ((q4 2), .inr (4, [.int 4, .ref (q4 3), .int 0])), ((q4 3), .inl (X.1.2.2.2 0, 24, .inl (fun _ => 0))), ((q4 4), .inr (1, [.ref (q4 5), .ref (q4 13), .ref (q4 15)])), ((q4 5), .inr (5, [.ref (q4 6), .ref (q4 9), .ref (q4 11), .int 0])), ((q4 6), .inr (3, [.ref (q4 7), .int 0])), ((q4 7), .inr (4, [.int 2, .ref (q4 8), .int 0])), ((q4 8), .inl (X.1.2.2.2 0, 80, .inl (fun _ => 0))), ((q4 9), .inr (4, [.int 3, .ref (q4 10), .int 0])), ((q4 10), .inl (X.1.2.2.2 0, 480, .inl (fun _ => 0))), ((q4 11), .inr (4, [.int 2, .ref (q4 12), .int 0])), ((q4 12), .inl (X.1.2.2.2 0, 160, .inl (fun _ => 0))), ((q4 13), .inr (4, [.int 2, .ref (q4 14), .int 0])), ((q4 14), .inl (X.1.2.2.2 0, 320, .inl (fun _ => 0))), ((q4 15), .inr (4, [.int 3, .ref (q4 16), .int 0])), ((q4 16), .inl (X.1.2.2.2 0, 564, .inl (fun _ => 0)))]) (sts := [.ref p8, .ref p8]) hX (c_X7_init (h0 := p8)) [18] [0, 1, 2, 3, 4, 5, 6, 7, 8, 9, 10, 11, 12, 13, 14, 15, 16, 17] rfl rfl rfl rfl (by decide) kw_75 kw_76 kw_5 kw_77 rfl ⟨by decide +kernel, by decide +kernel⟩ pd_yX7_init rfl ⟨by decide, by decide⟩ ⟨Nat.le_of_ble_eq_true rfl, Nat.le_of_ble_eq_true rfl⟩ rfl (Nat.le_of_ble_eq_true rfl) dL_law_12 (fun q12 => ?_)
  change WMl X [(p0, .inr (6, [.ref (q4 0), .int 0, .ref (q4 1), .ref (q4 4), .ref (q4 5), .ref (q4 6)])), ((q4 0), .inl (X.1.2.2.2 3, 6, .inr (.inr (.inr (.inr (fun _ => none)))))), ((q4 1), .inr (2, [.ref (q4 2)])), ((q4 2), .inr (4, [.int 4, .ref (q4 3), .int 0])), ((q4 3), .inl (X.1.2.2.2 0, 24, .inl (fun _ => 0))), ((q4 4), .inr (1, [.ref (q4 5), .ref (q4 13), .ref (q4 15)])), ((q4 5), .inr (5, [.ref (q4 6), .ref (q4 9), .ref (q4 11), .int 0])), ((q4 6), .inr (3, [.ref (q4 7), .int 0])), ((q4 7), .inr (4, [.int 2, .ref (q4 8), .int 0])), ((q4 8), .inl (X.1.2.2.2 0, 80, .inl (fun _ => 0))), ((q4 9), .inr (4, [.int 3, .ref (q4 10), .int 0])), ((q4 10), .inl (X.1.2.2.2 0, 480, .inl (fun _ => 0))), ((q4 11), .inr (4, [.int 2, .ref (q4 12), .int 0])), ((q4 12), .inl (X.1.2.2.2 0, 160, .inl (fun _ => 0))), ((q4 13), .inr (4, [.int 2, .ref (q4 14), .int 0])), ((q4 14), .inl (X.1.2.2.2 0, 320, .inl (fun _ => 0))), ((q4 15), .inr (4, [.int 3, .ref (q4 16), .int 0])), ((q4 16), .inl (X.1.2.2.2 0, 564, .inl (fun _ => 0))), (p8, .inr (7, [.int 0, .int 0, .ref (q12 0), .ref (q12 1), .ref (q12 2), .ref (q12 3), .ref (q12 4), .ref (q12 5), .ref (q12 6), .ref (q12 7), .ref (q12 8), .ref (q12 9), .ref (q12 10), .ref (q12 11), .int 0, .ref (q12 12), .ref (q12 13), .ref (q12 14), .ref (q12 15), .int 0, .int 0, .ref (q12 16), .ref (q12 17), .ref (q12 18), .ref (q12 19), .ref (q12 20), .ref (q12 21), .ref (q12 22), .ref (q12 23), .ref (q12 24), .ref (q12 25), .int 0, .int 0, .int 0])), ((q12 0), .inl (X.1.2.2.2 0, 6, .inl (fun _ => 0))), ((q12 1), .inl (X.1.2.2.2 0, 6, .inl (fun _ => 0))), ((q12 2), .inl (X.1.2.2.2 1, 6, .inr (.inl (fun _ => 0)))), ((q12 3), .inl (X.1.2.2.2 0, 6, .inl (fun _ => 0))), ((q12 4), .inl (X.1.2.2.2 0, 246, .inl (fun _ => 0))), ((q12 5), .inl (X.1.2.2.2 2, 246, .inl (fun _ => 0))), ((q12 6), .inl (X.1.2.2.2 0, 6, .inl (fun _ => 0))), ((q12 7), .inl (X.1.2.2.2 0, 120, .inl (fun _ => 0))), ((q12 8), .inl (X.1.2.2.2 0, 120, .inl (fun _ => 0))), ((q12 9), .inl (X.1.2.2.2 0, 6, .inl (fun _ => 0))), ((q12 10), .inl (X.1.2.2.2 0, 120, .inl (fun _ => 0))), ((q12 11), .inl (X.1.2.2.2 0, 120, .inl (fun _ => 0))), ((q12 12), .inl (X.1.2.2.2 0, 6, .inl (fun _ => 0))), ((q12 13), .inl (X.1.2.2.2 0, 6, .inl (fun _ => 0))), ((q12 14), .inl (X.1.2.2.2 0, 6, .inl (fun _ => 0))), ((q12 15), .inl (X.1.2.2.2 0, 6, .inl (fun _ => 0))), ((q12 16), .inl (X.1.2.2.2 0, 41, .inl (fun _ => 0))), ((q12 17), .inl (X.1.2.2.2 0, 41, .inl (fun _ => 0))), ((q12 18), .inl (X.1.2.2.2 0, 10081, .inl (fun _ => 0))), ((q12 19), .inl (X.1.2.2.2 0, 10081, .inl (fun _ => 0))), ((q12 20), .inl (X.1.2.2.2 0, 10080, .inl (fun _ => 0))), ((q12 21), .inl (X.1.2.2.2 0, 7, .inl (fun _ => 0))), ((q12 22), .inl (X.1.2.2.2 0, 7, .inl (fun _ => 0))), ((q12 23), .inl (X.1.2.2.2 0, 21, .inl (fun _ => 0))), ((q12 24), .inl (X.1.2.2.2 0, 21, .inl (fun _ => 0))), ((q12 25), .inl (X.1.2.2.2 0, 3, .inl (fun _ => 0)))] _ _ _ _ _ _
  refine tq_astore_n (pc := 15) (lo' := [(2, .ref p8), (1, .ref p0), (0, .ref b)]) hX [0, 1, 2] rfl (by decide) rfl dL_law_15 ?_
  refine tq_iconst (pc := 16) hX (1) rfl dL_law_16 ?_
  refine tq_newa (atype := .long) (ty := .long) (pc := 17) (N' := 1) (a0 := (1, .inr (.inl (fun _ => 0)))) hX 1 rfl (fun C h => by cases h) rfl kw_6 (fun _ => rfl) (by decide) (by decide +kernel) (by decide +kernel) (Nat.le_of_ble_eq_true rfl) (Nat.le_of_ble_eq_true rfl) dL_law_17 (fun p17 => ?_)
  change WMl X [(p0, .inr (6, [.ref (q4 0), .int 0, .ref (q4 1), .ref (q4 4), .ref (q4 5), .ref (q4 6)])), ((q4 0), .inl (X.1.2.2.2 3, 6, .inr (.inr (.inr (.inr (fun _ => none)))))), ((q4 1), .inr (2, [.ref (q4 2)])), ((q4 2), .inr (4, [.int 4, .ref (q4 3), .int 0])), ((q4 3), .inl (X.1.2.2.2 0, 24, .inl (fun _ => 0))), ((q4 4), .inr (1, [.ref (q4 5), .ref (q4 13), .ref (q4 15)])), ((q4 5), .inr (5, [.ref (q4 6), .ref (q4 9), .ref (q4 11), .int 0])), ((q4 6), .inr (3, [.ref (q4 7), .int 0])), ((q4 7), .inr (4, [.int 2, .ref (q4 8), .int 0])), ((q4 8), .inl (X.1.2.2.2 0, 80, .inl (fun _ => 0))), ((q4 9), .inr (4, [.int 3, .ref (q4 10), .int 0])), ((q4 10), .inl (X.1.2.2.2 0, 480, .inl (fun _ => 0))), ((q4 11), .inr (4, [.int 2, .ref (q4 12), .int 0])), ((q4 12), .inl (X.1.2.2.2 0, 160, .inl (fun _ => 0))), ((q4 13), .inr (4, [.int 2, .ref (q4 14), .int 0])), ((q4 14), .inl (X.1.2.2.2 0, 320, .inl (fun _ => 0))), ((q4 15), .inr (4, [.int 3, .ref (q4 16), .int 0])), ((q4 16), .inl (X.1.2.2.2 0, 564, .inl (fun _ => 0))), (p8, .inr (7, [.int 0, .int 0, .ref (q12 0), .ref (q12 1), .ref (q12 2), .ref (q12 3), .ref (q12 4), .ref (q12 5), .ref (q12 6), .ref (q12 7), .ref (q12 8), .ref (q12 9), .ref (q12 10), .ref (q12 11), .int 0, .ref (q12 12), .ref (q12 13), .ref (q12 14), .ref (q12 15), .int 0, .int 0, .ref (q12 16), .ref (q12 17), .ref (q12 18), .ref (q12 19), .ref (q12 20), .ref (q12 21), .ref (q12 22), .ref (q12 23), .ref (q12 24), .ref (q12 25), .int 0, .int 0, .int 0])), ((q12 0), .inl (X.1.2.2.2 0, 6, .inl (fun _ => 0))), ((q12 1), .inl (X.1.2.2.2 0, 6, .inl (fun _ => 0))), ((q12 2), .inl (X.1.2.2.2 1, 6, .inr (.inl (fun _ => 0)))), ((q12 3), .inl (X.1.2.2.2 0, 6, .inl (fun _ => 0))), ((q12 4), .inl (X.1.2.2.2 0, 246, .inl (fun _ => 0))), ((q12 5), .inl (X.1.2.2.2 2, 246, .inl (fun _ => 0))), ((q12 6), .inl (X.1.2.2.2 0, 6, .inl (fun _ => 0))), ((q12 7), .inl (X.1.2.2.2 0, 120, .inl (fun _ => 0))), ((q12 8), .inl (X.1.2.2.2 0, 120, .inl (fun _ => 0))), ((q12 9), .inl (X.1.2.2.2 0, 6, .inl (fun _ => 0))), ((q12 10), .inl (X.1.2.2.2 0, 120, .inl (fun _ => 0))), ((q12 11), .inl (X.1.2.2.2 0, 120, .inl (fun _ => 0))), ((q12 12), .inl (X.1.2.2.2 0, 6, .inl (fun _ => 0))), ((q12 13), .inl (X.1.2.2.2 0, 6, .inl (fun _ => 0))), ((q12 14), .inl (X.1.2.2.2 0, 6, .inl (fun _ => 0))), ((q12 15), .inl (X.1.2.2.2 0, 6, .inl (fun _ => 0))), ((q12 16), .inl (X.1.2.2.2 0, 41, .inl (fun _ => 0))), ((q12 17), .inl (X.1.2.2.2 0, 41, .inl (fun _ => 0))), ((q12 18), .inl (X.1.2.2.2 0, 10081, .inl (fun _ => 0))), ((q12 19), .inl (X.1.2.2.2 0, 10081, .inl (fun _ => 0))), ((q12 20), .inl (X.1.2.2.2 0, 10080, .inl (fun _ => 0))), ((q12 21), .inl (X.1.2.2.2 0, 7, .inl (fun _ => 0))), ((q12 22), .inl (X.1.2.2.2 0, 7, .inl (fun _ => 0))), ((q12 23), .inl (X.1.2.2.2 0, 21, .inl (fun _ => 0))), ((q12 24), .inl (X.1.2.2.2 0, 21, .inl (fun _ => 0))), ((q12 25), .inl (X.1.2.2.2 0, 3, .inl (fun _ => 0))), (p17, .inl (X.1.2.2.2 1, 1, .inr (.inl (fun _ => 0))))] _ _ _ _ _ _
  refine tq_astore_n (pc := 19) (lo' := [(3, .ref p17), (2, .ref p8), (1, .ref p0), (0, .ref b)]) hX [0, 1, 2, 3] rfl (by decide) rfl dL_law_19 ?_
  refine tq_iconst (pc := 20) hX (0) rfl dL_law_20 ?_
  refine tq_istore (pc := 21) (lo' := [(0, .ref b), (1, .ref p0), (2, .ref p8), (3, .ref p17), (4, .int 0)]) hX [4, 3, 2, 1, 0] (by decide) rfl dL_law_21 ?_
  refine tq_perm (w' := Wd X.1.2.2.2 (fun id => [p17, p8, (q12 0), (q12 1), (q12 2), (q12 3), (q12 4), (q12 5), (q12 6), (q12 7), (q12 8), (q12 9), (q12 10), (q12 11), (q12 12), (q12 13), (q12 14), (q12 15), (q12 16), (q12 17), (q12 18), (q12 19), (q12 20), (q12 21), (q12 22), (q12 23), (q12 24), (q12 25), p0, (q4 0), (q4 1), (q4 2), (q4 3), (q4 4), (q4 13), (q4 14), (q4 15), (q4 16), (q4 5), (q4 9), (q4 10), (q4 11), (q4 12), (q4 6), (q4 7), (q4 8)].getD id 0) 0 (fun _ _ => 0) (fun _ _ => 0)) [45, 18, 19, 20, 21, 22, 23, 24, 25, 26, 27, 28, 29, 30, 31, 32, 33, 34, 35, 36, 37, 38, 39, 40, 41, 42, 43, 44, 0, 1, 2, 3, 4, 5, 14, 15, 16, 17, 6, 10, 11, 12, 13, 7, 8, 9] rfl ?_ ?_
  · rw [show Wd X.1.2.2.2 (fun id => [p17, p8, (q12 0), (q12 1), (q12 2), (q12 3), (q12 4), (q12 5), (q12 6), (q12 7), (q12 8), (q12 9), (q12 10), (q12 11), (q12 12), (q12 13), (q12 14), (q12 15), (q12 16), (q12 17), (q12 18), (q12 19), (q12 20), (q12 21), (q12 22), (q12 23), (q12 24), (q12 25), p0, (q4 0), (q4 1), (q4 2), (q4 3), (q4 4), (q4 13), (q4 14), (q4 15), (q4 16), (q4 5), (q4 9), (q4 10), (q4 11), (q4 12), (q4 6), (q4 7), (q4 8)].getD id 0) 0 (fun _ _ => 0) (fun _ _ => 0) = (List.range 46).map (fun k => ((fun id => [p17, p8, (q12 0), (q12 1), (q12 2), (q12 3), (q12 4), (q12 5), (q12 6), (q12 7), (q12 8), (q12 9), (q12 10), (q12 11), (q12 12), (q12 13), (q12 14), (q12 15), (q12 16), (q12 17), (q12 18), (q12 19), (q12 20), (q12 21), (q12 22), (q12 23), (q12 24), (q12 25), p0, (q4 0), (q4 1), (q4 2), (q4 3), (q4 4), (q4 13), (q4 14), (q4 15), (q4 16), (q4 5), (q4 9), (q4 10), (q4 11), (q4 12), (q4 6), (q4 7), (q4 8)].getD id 0) k, ob X.1.2.2.2 (fun id => [p17, p8, (q12 0), (q12 1), (q12 2), (q12 3), (q12 4), (q12 5), (q12 6), (q12 7), (q12 8), (q12 9), (q12 10), (q12 11), (q12 12), (q12 13), (q12 14), (q12 15), (q12 16), (q12 17), (q12 18), (q12 19), (q12 20), (q12 21), (q12 22), (q12 23), (q12 24), (q12 25), p0, (q4 0), (q4 1), (q4 2), (q4 3), (q4 4), (q4 13), (q4 14), (q4 15), (q4 16), (q4 5), (q4 9), (q4 10), (q4 11), (q4 12), (q4 6), (q4 7), (q4 8)].getD id 0) 0 k (fun _ => 0) (fun _ => 0))) from rfl]
    rw [show List.range 46 = [0, 1, 2, 3, 4, 5, 6, 7, 8, 9, 10, 11, 12, 13, 14, 15, 16, 17, 18, 19, 20, 21, 22, 23, 24, 25, 26, 27, 28, 29, 30, 31, 32, 33, 34, 35, 36, 37, 38, 39, 40, 41, 42, 43, 44, 45] from rfl]
    simp only [List.map_cons, List.map_nil, ob, obS_0]
    rfl
  · have K := law_loop hX hS hL hI hend (L + 1) 0 (by omega) (by omega) (fun id => [p17, p8, (q12 0), (q12 1), (q12 2), (q12 3), (q12 4), (q12 5), (q12 6), (q12 7), (q12 8), (q12 9), (q12 10), (q12 11), (q12 12), (q12 13), (q12 14), (q12 15), (q12 16), (q12 17), (q12 18), (q12 19), (q12 20), (q12 21), (q12 22), (q12 23), (q12 24), (q12 25), p0, (q4 0), (q4 1), (q4 2), (q4 3), (q4 4), (q4 13), (q4 14), (q4 15), (q4 16), (q4 5), (q4 9), (q4 10), (q4 11), (q4 12), (q4 6), (q4 7), (q4 8)].getD id 0) 0 (fun _ _ => 0) (fun _ _ => 0) 0 nI_0.symm h0
    exact WM_of (q_widen (by omega) (by omega) K)
set_option maxHeartbeats 4000000 in
set_option maxRecDepth 100000 in
/-- THE LAW, from its entry, over an invariant of the loop -/
theorem whole_from {I : Nat → Mem → Mel → Prop} (hI : PStep I) (h0 : I 0 (fun _ _ => 0) (fun _ _ => 0)) {p : Program} {e : Env} {s : State} {m : MethodId} {below : List Frame} {meth : Method} {c : Code} (l : Launch) (hflags : l.flags = flags0) {b L : Nat} {xs : Nat → Int32} (hL : L ≤ 2560) (C0 : lw_At p s m meth c b L xs) : W p l e room_1 s m #[Value.ref b] below meth c s.heap [] 0 0 (lw_Z below #[Value.ref b] s) (entryFrame m ([Value.ref b] : List Value).toArray 8) := by
  obtain ⟨hx, hb, hr, hml, hown, hts, hXb, hbl, hlocks, hgv⟩ := id C0
  have htr : l.stackTraces = false := by unfold Launch.stackTraces; rw [hflags]; decide +kernel
  have htB : ∀ w ∈ BG, w.before #[Value.ref b] s = true := fun w hw => hts w (BG_in w hw)
  obtain ⟨c0, i0, K0⟩ := u_known (C := RX0) (T := TX0) (N := 6) (n := 6) htB in_X0 (htB _ kw_120)
  obtain ⟨c1, i1, K1⟩ := u_known (C := RX1) (T := TX1) (N := 3) (n := 3) htB in_X1 (htB _ kw_21)
  obtain ⟨c2, i2, K2⟩ := u_known (C := RX2) (T := TX2) (N := 1) (n := 1) htB in_X2 (htB _ kw_17)
  obtain ⟨c3, i3, K3⟩ := u_known (C := RX3) (T := TX3) (N := 2) (n := 2) htB in_X3 (htB _ kw_58)
  obtain ⟨c4, i4, K4⟩ := u_known (C := RX4) (T := TX4) (N := 3) (n := 3) htB in_X4 (htB _ kw_31)
  obtain ⟨c5, i5, K5⟩ := u_known (C := RX5) (T := TX5) (N := 4) (n := 4) htB in_X5 (htB _ kw_47)
  obtain ⟨c6, i6, K6⟩ := u_known (C := RX6) (T := TX6) (N := 6) (n := 6) htB in_X6 (htB _ kw_1)
  obtain ⟨c7, i7, K7⟩ := u_known (C := RX7) (T := TX7) (N := 34) (n := 34) htB in_X7 (htB _ kw_4)
  have hMF := mf_start hts hgv
  obtain ⟨a0, A0, B0⟩ := ac_prim (ty := .int) (fun C h => by cases h) (htB _ kw_39)
  obtain ⟨a1, A1, B1⟩ := ac_prim (ty := .long) (fun C h => by cases h) (htB _ kw_6)
  obtain ⟨a2, A2, B2⟩ := ac_prim (ty := .boolean) (fun C h => by cases h) (htB _ kw_84)
  obtain ⟨a3, A3, B3⟩ := ac_obj hMF.2.2.2.2.2
  obtain ⟨dC, dI, hKc⟩ : ∃ (dC : Nat → ClassId) (dI : Nat → Nat → Nat), ∀ (k : Nat) (q : vw_C), vwCl[k]? = some q → u_Kn s q.1 q.2.1 q.2.2 (dC k) (dI k) := by
    refine ⟨fun k => if k = 0 then c0 else if k = 1 then c1 else if k = 2 then c2 else if k = 3 then c3 else if k = 4 then c4 else if k = 5 then c5 else if k = 6 then c6 else c7, fun k => if k = 0 then i0 else if k = 1 then i1 else if k = 2 then i2 else if k = 3 then i3 else if k = 4 then i4 else if k = 5 then i5 else if k = 6 then i6 else i7, ?_⟩
    intro k q hq
    match k, hq with
    | 0, hq => cases hq; exact K0
    | 1, hq => cases hq; exact K1
    | 2, hq => cases hq; exact K2
    | 3, hq => cases hq; exact K3
    | 4, hq => cases hq; exact K4
    | 5, hq => cases hq; exact K5
    | 6, hq => cases hq; exact K6
    | 7, hq => cases hq; exact K7
    | k + 8, hq => simp [vwCl] at hq
  obtain ⟨ac, hac⟩ : ∃ ac : Nat → ClassId, ∀ (k : Nat) (q : ClassId × FieldType), (tysL ac)[k]? = some q → ArrOfT s q.1 q.2 ∧ va_RA s q.1 q.2 := by
    refine ⟨fun k => if k = 0 then a0 else if k = 1 then a1 else if k = 2 then a2 else a3, ?_⟩
    intro k q hq
    match k, hq with
    | 0, hq => cases hq; exact ⟨A0, B0⟩
    | 1, hq => cases hq; exact ⟨A1, B1⟩
    | 2, hq => cases hq; exact ⟨A2, B2⟩
    | 3, hq => cases hq; exact ⟨A3, B3⟩
    | k + 4, hq => simp [tysL] at hq
  have hX : CxOK ((l, dC, dI, ac), p, e, room_1, s, m, #[Value.ref b], below, meth, c, lw_Z below #[Value.ref b] s, fun q : Nat => s.heap.size ≤ q) RL cL_law 8 12 436 601024 7293034 (some .boolean) := ⟨rfl, hx, hb, hml, hown, htB, ⟨hKc, hac⟩, fun _ h => h, hMF, hr, hlocks, htr⟩
  have hS : ScrOK ((l, dC, dI, ac), p, e, room_1, s, m, #[Value.ref b], below, meth, c, lw_Z below #[Value.ref b] s, fun q : Nat => s.heap.size ≤ q) b L xs := ⟨hXb, hbl, Nat.not_le.mpr hbl⟩
  have K := law_first hX hS hL hI h0 (fun o hn M G x4 => by
    refine q_iconst (pc := 1981) hX (1) rfl dL_law_1981 ?_
    intro H locs ls hw hl
    exact va_forget (fun q hq => hw.2.2.2.2 q hq) (lw_ret hx hb hr hlocks dL_law_1982))
  have hl := lv_entry ([.ref b]) (n := 8) (Nat.le_of_ble_eq_true rfl)
  rw [lg_entry_eq]
  exact K s.heap [] _ ⟨fun k q h => by simp at h, ⟨fun i j p q h => by simp at h, fun k q h => by simp at h⟩, va_S.rf⟩ hl

/-! worlds as lists, for what makes objects -/
def WMl (X : Cx) (w : va_W) (k n pc nL : Nat) (lo : List (Nat × Value)) (st : List Value) : Prop :=
  match X with
  | ((l, dC, dI, ac), p, e, R, s, m, args, below, meth, c, Q, A) => ∀ (H : Heap) (locs : List Loc) (ls : Array Slot), HW dC dI A w s.heap H locs → lv_has ls nL lo → W p l e R s m args below meth c H locs k n Q (F0 m pc ls st)
theorem WMl_of {X : Cx} {o : Nat → Nat} {hn : Nat} {M : Mem} {G : Mel} {k n pc nL : Nat} {lo : List (Nat × Value)} {st : List Value} (h : WMl X (Wd X.1.2.2.2 o hn M G) k n pc nL lo st) : WM X o hn M G k n pc nL lo st := h
theorem WM_of {X : Cx} {o : Nat → Nat} {hn : Nat} {M : Mem} {G : Mel} {k n pc nL : Nat} {lo : List (Nat × Value)} {st : List Value} (h : WM X o hn M G k n pc nL lo st) : WMl X (Wd X.1.2.2.2 o hn M G) k n pc nL lo st := h
def PreL (Y : Lx) (w : va_W) (sz : Nat) (U : State) : Prop := U.heap.size = sz ∧ va_P (Y.2.1, Y.2.2.1) vwCl w U.heap ∧ va_K (Y.2.1, Y.2.2.1) vwCl (tysL Y.2.2.2) U ∧ va_D (fun _ => True) w ∧ MF (va_A w sz) U U.heap
def QL (Y : Lx) (A : Nat → Prop) (post : (Nat → Nat) → va_W) : Array Value → State → Outcome → State → Prop := fun _ st oc t => oc = .returned none ∧ (∃ q : Nat → Nat, va_P (Y.2.1, Y.2.2.1) vwCl (post q) t.heap ∧ va_K (Y.2.1, Y.2.2.1) vwCl (tysL Y.2.2.2) t ∧ va_D A (post q)) ∧ va_F A st t
/-- a constructor's contract: the world w becomes post q, for some new addresses q -/
def MC (Y : Lx) (y : MethodName) (bytes : ByteArray) (maxL fr lc mc ms : Nat) (av : List Value) (w : va_W) (post : (Nat → Nat) → va_W) : Prop :=
  Y.1.stackTraces = false → ∀ sz : Nat, Met Y.1 y (.code y bytes maxL none :: BG) { frames := fr, cells := mc, slots := ms, locals := lc } (va_Pc av (PreL Y w sz)) (QL Y (va_A w sz) post) mc ms (va_A w sz)
def CxC (X : Cx) (mc ms : Nat) (post : (Nat → Nat) → va_W) : Prop :=
  match X with
  | (Y, _, _, _, s, _, args, below, meth, _, Q, A) => Q = MQ below (QL Y A post) args s mc ms A ∧ meth.name = "<init>"
theorem PreL.blind (Y : Lx) (av : List Value) (w : va_W) (sz : Nat) : FrameBlind (va_Pc av (PreL Y w sz)) := by
  intro a U g mk q
  obtain ⟨q0, q1, q2, q3, q4, q5⟩ := q
  exact ⟨q0, q1, q2, va_K.moved (u := U) (U := U.calling g mk a) (Vm.Alike.refl U.vm) q3, q4, MF.same (s := U) (U := U.calling g mk a) q5 rfl⟩
theorem MC.of {Y : Lx} {y : MethodName} {bytes : ByteArray} {maxL fr lc mc ms : Nat} {av : List Value} {w : va_W} {post : (Nat → Nat) → va_W} (hy : plainName y.cls = true) (hyn : y.name = "<init>") (hlen : (lg_sl av).length ≤ maxL)
    (body : ∀ X : Cx, X.1 = Y → CxOK X y.cls bytes maxL fr lc mc ms none → CxC X mc ms post → WMl X w 0 0 0 maxL (lv_args 0 av) []) : MC Y y bytes maxL fr lc mc ms av w post := by
  intro htr sz
  refine Met.ofW (cc := bytes) (maxL := maxL) (ret := none) hy rfl ?_
  intro p e s m args below meth c s₁ B hml hv
  obtain ⟨rfl, hsz, hP, hK, hD0, hMF⟩ := hv
  subst hsz
  have hts := atoms_spec (ws := .code y bytes maxL none :: BG) B.pre
  have key := body (Y, p, e, { frames := fr, cells := mc, slots := ms, locals := lc }, s, m, av.toArray, below, meth, c, _, va_A w s.heap.size) rfl ⟨rfl, B.exec, B.bytes, hml, findClass_of_methodNamed B.named, fun w h => hts w (List.mem_cons_of_mem _ h), hK, fun q h => Or.inr h, hMF, B.returns, B.notSynchronized, htr⟩ ⟨rfl, by rw [(name_of_methodNamed B.named B.method).1]; exact hyn⟩
  rw [lg_entry_eq]
  exact key s.heap [] _ ⟨hP, hD0.self, va_S.rf⟩ (lv_entry av hlen)
section RowsL
variable {X : Cx} {own : String} {cc : ByteArray} {nL fr lc mc ms : Nat} {rt : Option FieldType} {w : va_W} {a b pc : Nat} {lo : List (Nat × Value)} {st : List Value}
theorem tq_iconst (hX : CxOK X own cc nL fr lc mc ms rt) {n : Int} (v : Int32) (hv : Int32.ofInt n = v) (d : decode cc pc = .ok (.iconst n, 1)) (k : WMl X w a b (pc + 1) nL lo (.int v :: st)) : WMl X w a b pc nL lo st := by
  obtain ⟨⟨l, dC, dI, ac⟩, p, e, R, s, m, args, below, meth, c, Q, A⟩ := X
  obtain ⟨hR, hx, hb, hml, hown, hts, hK, hA, hMF, hrt, hlk, htr⟩ := hX
  intro H locs ls hw hl
  exact lv_iconst hx hb d hv (k H locs ls hw hl)
theorem tq_lconst (hX : CxOK X own cc nL fr lc mc ms rt) {n : Fin 2} (v : Int64) (hv : Int64.ofNat (n : Nat) = v) (d : decode cc pc = .ok (.lconst n, 1)) (k : WMl X w a b (pc + 1) nL lo (.long v :: st)) : WMl X w a b pc nL lo st := by
  obtain ⟨⟨l, dC, dI, ac⟩, p, e, R, s, m, args, below, meth, c, Q, A⟩ := X
  obtain ⟨hR, hx, hb, hml, hown, hts, hK, hA, hMF, hrt, hlk, htr⟩ := hX
  intro H locs ls hw hl
  exact lv_lconst hx hb d hv (k H locs ls hw hl)
theorem tq_bipush (hX : CxOK X own cc nL fr lc mc ms rt) {n : Int} (v : Int32) (hv : (Int8.ofInt n).toInt32 = v) (d : decode cc pc = .ok (.bipush n, 2)) (k : WMl X w a b (pc + 2) nL lo (.int v :: st)) : WMl X w a b pc nL lo st := by
  obtain ⟨⟨l, dC, dI, ac⟩, p, e, R, s, m, args, below, meth, c, Q, A⟩ := X
  obtain ⟨hR, hx, hb, hml, hown, hts, hK, hA, hMF, hrt, hlk, htr⟩ := hX
  intro H locs ls hw hl
  exact lv_bipush hx hb d hv (k H locs ls hw hl)
theorem tq_sipush (hX : CxOK X own cc nL fr lc mc ms rt) {n : Int} (v : Int32) (hv : (Int16.ofInt n).toInt32 = v) (d : decode cc pc = .ok (.sipush n, 3)) (k : WMl X w a b (pc + 3) nL lo (.int v :: st)) : WMl X w a b pc nL lo st := by
  obtain ⟨⟨l, dC, dI, ac⟩, p, e, R, s, m, args, below, meth, c, Q, A⟩ := X
  obtain ⟨hR, hx, hb, hml, hown, hts, hK, hA, hMF, hrt, hlk, htr⟩ := hX
  intro H locs ls hw hl
  exact lv_sipush hx hb d hv (k H locs ls hw hl)
theorem tq_iload_n (hX : CxOK X own cc nL fr lc mc ms rt) {q : Fin 4} {i : Nat} {x : Int32} (j : Nat) (hi : (q : Nat) = i) (hj : lo[j]? = some (i, .int x)) (d : decode cc pc = .ok (.iload_n q, 1)) (k : WMl X w a b (pc + 1) nL lo (.int x :: st)) : WMl X w a b pc nL lo st := by
  obtain ⟨⟨l, dC, dI, ac⟩, p, e, R, s, m, args, below, meth, c, Q, A⟩ := X
  obtain ⟨hR, hx, hb, hml, hown, hts, hK, hA, hMF, hrt, hlk, htr⟩ := hX
  intro H locs ls hw hl
  exact lv_iload_n hx hb d hi (lv_at hl j hj) (k H locs ls hw hl)
theorem tq_aload_n (hX : CxOK X own cc nL fr lc mc ms rt) {q : Fin 4} {i x : Nat} (j : Nat) (hi : (q : Nat) = i) (hj : lo[j]? = some (i, .ref x)) (d : decode cc pc = .ok (.aload_n q, 1)) (k : WMl X w a b (pc + 1) nL lo (.ref x :: st)) : WMl X w a b pc nL lo st := by
  obtain ⟨⟨l, dC, dI, ac⟩, p, e, R, s, m, args, below, meth, c, Q, A⟩ := X
  obtain ⟨hR, hx, hb, hml, hown, hts, hK, hA, hMF, hrt, hlk, htr⟩ := hX
  intro H locs ls hw hl
  exact lv_aload_n hx hb d hi (lv_at hl j hj) (k H locs ls hw hl)
theorem tq_astore_n (hX : CxOK X own cc nL fr lc mc ms rt) {q : Fin 4} {i x : Nat} {lo' : List (Nat × Value)} (ks : List Nat) (hi : (q : Nat) = i) (hn' : i < nL) (hl' : lv_pick ((i, Value.ref x) :: lo.filter (fun q => !(q.1 == i) && !(q.1 + 1 == i && q.2.category == 2))) ks = lo') (d : decode cc pc = .ok (.astore_n q, 1)) (k : WMl X w a b (pc + 1) nL lo' st) : WMl X w a b pc nL lo (.ref x :: st) := by
  obtain ⟨⟨l, dC, dI, ac⟩, p, e, R, s, m, args, below, meth, c, Q, A⟩ := X
  obtain ⟨hR, hx, hb, hml, hown, hts, hK, hA, hMF, hrt, hlk, htr⟩ := hX
  intro H locs ls hw hl
  exact lv_astore_n hx hb d hi hl hn' rfl (fun ls2 hl2 => k H locs ls2 hw (lv_sub hl2 ks hl'))
theorem tq_imul (hX : CxOK X own cc nL fr lc mc ms rt) {x y : Int32} (d : decode cc pc = .ok (.imul, 1)) (k : WMl X w a b (pc + 1) nL lo (.int (x * y) :: st)) : WMl X w a b pc nL lo (.int y :: .int x :: st) := by
  obtain ⟨⟨l, dC, dI, ac⟩, p, e, R, s, m, args, below, meth, c, Q, A⟩ := X
  obtain ⟨hR, hx, hb, hml, hown, hts, hK, hA, hMF, hrt, hlk, htr⟩ := hX
  intro H locs ls hw hl
  exact lv_imul hx hb d (k H locs ls hw hl)
theorem tq_iadd (hX : CxOK X own cc nL fr lc mc ms rt) {x y : Int32} (d : decode cc pc = .ok (.iadd, 1)) (k : WMl X w a b (pc + 1) nL lo (.int (x + y) :: st)) : WMl X w a b pc nL lo (.int y :: .int x :: st) := by
  obtain ⟨⟨l, dC, dI, ac⟩, p, e, R, s, m, args, below, meth, c, Q, A⟩ := X
  obtain ⟨hR, hx, hb, hml, hown, hts, hK, hA, hMF, hrt, hlk, htr⟩ := hX
  intro H locs ls hw hl
  exact lv_iadd hx hb d (k H locs ls hw hl)
theorem tq_dup (hX : CxOK X own cc nL fr lc mc ms rt) {v : Value} (hv : v.category = 1) (d : decode cc pc = .ok (.dup, 1)) (k : WMl X w a b (pc + 1) nL lo (v :: v :: st)) : WMl X w a b pc nL lo (v :: st) := by
  obtain ⟨⟨l, dC, dI, ac⟩, p, e, R, s, m, args, below, meth, c, Q, A⟩ := X
  obtain ⟨hR, hx, hb, hml, hown, hts, hK, hA, hMF, hrt, hlk, htr⟩ := hX
  intro H locs ls hw hl
  exact lv_dup hx hb d hv (k H locs ls hw hl)
theorem tq_goto (hX : CxOK X own cc nL fr lc mc ms rt) {off : Int} (tgt : Nat) (ht : (pc : Int) + off = (tgt : Int)) (d : decode cc pc = .ok (.goto off, 3)) (k : WMl X w a b tgt nL lo st) : WMl X w a b pc nL lo st := by
  obtain ⟨⟨l, dC, dI, ac⟩, p, e, R, s, m, args, below, meth, c, Q, A⟩ := X
  obtain ⟨hR, hx, hb, hml, hown, hts, hK, hA, hMF, hrt, hlk, htr⟩ := hX
  intro H locs ls hw hl
  exact lv_goto hx hb d ht (k H locs ls hw hl)
/-- if_le that isn't taken -/
theorem tq_if_leN (hX : CxOK X own cc nL fr lc mc ms rt) {x : Int32} {off : Int} (tgt : Nat) (ht : (pc : Int) + off = (tgt : Int)) (hx0 : ¬ x ≤ 0) (d : decode cc pc = .ok (.ifCond .le off, 3)) (k : WMl X w a b (pc + 3) nL lo st) : WMl X w a b pc nL lo (.int x :: st) := by
  obtain ⟨⟨l, dC, dI, ac⟩, p, e, R, s, m, args, below, meth, c, Q, A⟩ := X
  obtain ⟨hR, hx, hb, hml, hown, hts, hK, hA, hMF, hrt, hlk, htr⟩ := hX
  intro H locs ls hw hl
  exact lv_if_le hx hb d ht (fun h => absurd h hx0) (fun h => k H locs ls hw hl)
theorem tq_objInit (hX : CxOK X own cc nL fr lc mc ms rt) {q idx : Nat} (hl1 : Cond.methodLink own idx objectInit ∈ BG) (hi : Cond.instanceMethod objectInit ∈ BG) (hc1 : Cond.code objectInit ⟨#[0xb1]⟩ 1 none ∈ BG) (h1 : 1 ≤ fr) (h2 : (st.map fun v => v.category).sum + 12 ≤ lc) (d : decode cc pc = .ok (.invokespecial idx, 3)) (k : WMl X w a b (pc + 3) nL lo st) : WMl X w a b pc nL lo (.ref q :: st) := by
  obtain ⟨⟨l, dC, dI, ac⟩, p, e, R, s, m, args, below, meth, c, Q, A⟩ := X
  obtain ⟨hR, hx, hb, hml, hown, hts, hK, hA, hMF, hrt, hlk, htr⟩ := hX
  intro H locs ls hw hl
  refine W.objInit hx hb hown (hts _ hl1) (hts _ hi) (hts _ hc1) rfl (by rw [hml]; exact hl.1) rfl d (by rw [hR]; exact h1) (by rw [hR]; show 2 * 0 + _ + 12 ≤ lc; omega) ?_
  exact W.eq (g2 := F0 m (pc + 3) ls st) rfl (k H locs ls hw hl)
theorem tq_new (hX : CxOK X own cc nL fr lc mc ms rt) {C : String} {T : u_T} {N ci idx : Nat} {fs : List Value} {ty : Nat → FieldType} (hin : ∀ w ∈ u_ws C T N, w ∈ BG) (hty : ∀ k, k < N → parseFieldDescriptor (T k).2.2.1 = some (ty k)) (hcl : Cond.classLink own idx C ∈ BG) (hinst : Cond.instantiable C N ∈ BG) (hini : Cond.initialized C ∈ BG) (hc : vwCl[ci]? = some (C, T, N)) (hfs : ∀ j, j < N → defaultValue (ty j) = vp_V fs j) (h1 : a + 1 ≤ mc) (h2 : b + N ≤ ms) (d : decode cc pc = .ok (.new idx, 3)) (k : ∀ q : Nat, WMl X (w ++ [(q, .inr (ci, fs))]) (a + 1) (b + N) (pc + 3) nL lo (.ref q :: st)) : WMl X w a b pc nL lo st := by
  obtain ⟨⟨l, dC, dI, ac⟩, p, e, R, s, m, args, below, meth, c, Q, A⟩ := X
  obtain ⟨hR, hx, hb, hml, hown, hts, hK, hA, hMF, hrt, hlk, htr⟩ := hX
  intro H locs ls hw hl
  exact va_new hx hb hts hin ty hty hown (hts _ hcl) (hts _ hinst) (hts _ hini) hK hw.1 hw.2.1 hw.2.2 hA hc hfs (by rw [hR]; exact h1) (by rw [hR]; exact h2) d (fun q H1 hP hD hS => k q H1 locs ls ⟨hP, hD, hS⟩ hl)
theorem ra_same {U : State} {c1 c2 : ClassId} {ty : FieldType} (hp : (∀ C, ty ≠ .object C)) (h1 : va_RA U c1 ty) (h2 : va_RA U c2 ty) : c1 = c2 := by
  cases ty with
  | object C => exact absurd rfl (hp C)
  | _ => exact Option.some.inj (Eq.trans (Eq.symm h1) h2)
theorem ra_sameO {U : State} {c1 c2 : ClassId} {C : String} (h1 : va_RA U c1 (.object C)) (h2 : va_RA U c2 (.object C)) : c1 = c2 := by
  obtain ⟨-, -, -, -, -, e1⟩ := h1
  obtain ⟨-, -, -, -, -, e2⟩ := h2
  exact Option.some.inj (e1.symm.trans e2)
theorem tq_newa (hX : CxOK X own cc nL fr lc mc ms rt) {atype : ArrayType} (t : Nat) {ty : FieldType} (hty : newarray.typeOf atype = ty) (hp : ∀ C, ty ≠ .object C) {cA : ClassId} (ht : (tysL X.1.2.2.2)[t]? = some (cA, ty)) (harr : Cond.arrayClass (newarray.typeOf atype) ∈ BG) {n : Int32} {N' : Nat} {a0 : vp_A} (ha : ∀ cA : ClassId, vp_cell cA a0 = arrV cA N' (fun _ => defaultValue ty)) (hn : ¬ n < 0) (hN : n.toNatClampNeg = N') (hbytes : N' * componentBytes ty ≤ 536870912) (h1 : a + 1 ≤ mc) (h2 : b + N' ≤ ms) (d : decode cc pc = .ok (.newarray atype, 2)) (k : ∀ q : Nat, WMl X (w ++ [(q, .inl (cA, a0))]) (a + 1) (b + N') (pc + 2) nL lo (.ref q :: st)) : WMl X w a b pc nL lo (.int n :: st) := by
  obtain ⟨⟨l, dC, dI, ac⟩, p, e, R, s, m, args, below, meth, c, Q, A⟩ := X
  obtain ⟨hR, hx, hb, hml, hown, hts, hK, hA, hMF, hrt, hlk, htr⟩ := hX
  intro H locs ls hw hl
  refine va_newa hx hb (hts _ harr) hty hK hw.1 hw.2.1 hw.2.2 hA ha hn hN hbytes (by rw [hR]; exact h1) (by rw [hR]; exact h2) d (fun q cB H1 hK1 hP hD hS => ?_)
  have e : cB = cA := ra_same hp (hK1.2 2 (cB, ty) rfl).2 (hK.2 t _ ht).2
  subst e
  exact k q H1 locs ls ⟨hP, hD, hS⟩ hl
theorem tq_newq (hX : CxOK X own cc nL fr lc mc ms rt) {idx : Nat} (hcl : Cond.classLink own idx "Timesheets$Employee" ∈ BG) {n : Int32} {N' : Nat} (hn : ¬ n < 0) (hN : n.toNatClampNeg = N') (hbytes : N' * 4 ≤ 536870912) (h1 : a + 1 ≤ mc) (h2 : b + N' ≤ ms) (d : decode cc pc = .ok (.anewarray idx, 3)) (k : ∀ q : Nat, WMl X (w ++ [(q, .inl (X.1.2.2.2 3, N', .inr (.inr (.inr (.inr (fun _ => none))))))]) (a + 1) (b + N') (pc + 3) nL lo (.ref q :: st)) : WMl X w a b pc nL lo (.int n :: st) := by
  obtain ⟨⟨l, dC, dI, ac⟩, p, e, R, s, m, args, below, meth, c, Q, A⟩ := X
  obtain ⟨hR, hx, hb, hml, hown, hts, hK, hA, hMF, hrt, hlk, htr⟩ := hX
  intro H locs ls hw hl
  refine va_newq hx hb hown (hts _ hcl) hMF.2 hK hw.1 hw.2.1 hw.2.2 hA hn hN hbytes (by rw [hR]; exact h1) (by rw [hR]; exact h2) d (fun q cB H1 hK1 hP hD hS => ?_)
  have e : cB = ac 3 := ra_sameO (hK1.2 2 (cB, _) rfl).2 (hK.2 1 _ rfl).2
  subst e
  exact k q H1 locs ls ⟨hP, hD, hS⟩ hl
theorem tq_get (hX : CxOK X own cc nL fr lc mc ms rt) {C : String} {T : u_T} {N ci index q : Nat} {fs : List Value} {v : Value} (i j : Nat) (he : w[i]? = some (q, .inr (ci, fs))) (hc : vwCl[ci]? = some (C, T, N)) (hin : ∀ w ∈ u_ws C T N, w ∈ BG) (hj : j < N) (hfl : FL own index (T j).1 (T j).2.1 (T j).2.2.1) (hv : fs[j]? = some v) (d : decode cc pc = .ok (.getfield index, 3)) (k : WMl X w a b (pc + 3) nL lo (v :: st)) : WMl X w a b pc nL lo (.ref q :: st) := by
  obtain ⟨⟨l, dC, dI, ac⟩, p, e, R, s, m, args, below, meth, c, Q, A⟩ := X
  obtain ⟨hR, hx, hb, hml, hown, hts, hK, hA, hMF, hrt, hlk, htr⟩ := hX
  intro H locs ls hw hl
  rcases hfl with hfl | ⟨host, hfl⟩
  · exact va_get hx hb hts hin hown hK hw.1 i he hc j hj (hts _ hfl) (fun _ h9 => h9) hv d (k H locs ls hw hl)
  · exact va_getN hx hb hts hin hown hK hw.1 i he hc j hj (xtra_use rfl (hMF.1 _ hfl rfl)) (fun _ h9 => h9) hv d (k H locs ls hw hl)
theorem tq_put (hX : CxOK X own cc nL fr lc mc ms rt) {C : String} {T : u_T} {N ci index q : Nat} {fs : List Value} {v : Value} {ty : FieldType} {ty0 : Nat → FieldType} {w' : va_W} (i j : Nat) (he : w[i]? = some (q, .inr (ci, fs))) (hw' : w.set i (q, .inr (ci, fs.set j v)) = w') (hc : vwCl[ci]? = some (C, T, N)) (hin : ∀ w ∈ u_ws C T N, w ∈ BG) (hty : ∀ k, k < N → parseFieldDescriptor (T k).2.2.1 = some (ty0 k)) (hnm : ∀ a, a < N → ∀ b, b < N → a ≠ b → (T a).2.1 ≠ (T b).2.1) (hj : j < N) (hfl : Cond.fieldLink own index (T j).1 (T j).2.1 (T j).2.2.1 ∈ BG) (hfin : (T j).2.2.2 = false) (hd : parseFieldDescriptor (T j).2.2.1 = some ty) (hna : narrow ty v = v) (hfit : fits ty v = true) (hlen : j < fs.length) (d : decode cc pc = .ok (.putfield index, 3)) (k : WMl X w' a b (pc + 3) nL lo st) : WMl X w a b pc nL lo (v :: .ref q :: st) := by
  obtain ⟨⟨l, dC, dI, ac⟩, p, e, R, s, m, args, below, meth, c, Q, A⟩ := X
  obtain ⟨hR, hx, hb, hml, hown, hts, hK, hA, hMF, hrt, hlk, htr⟩ := hX
  intro H locs ls hw hl
  subst hw'
  exact va_put (ty := ty) hx hb hts hin ty0 hty hnm hown hK hw.1 hw.2.1 hw.2.2 i he hc j hj (hts _ hfl) (fun _ h9 => h9) hfin hd hna hfit hlen d (fun H1 locs1 hP hD hS => k H1 locs1 ls ⟨hP, hD, hS⟩ hl)
theorem tq_putF (hX : CxOK X own cc nL fr lc mc ms rt) {post : (Nat → Nat) → va_W} (hC : CxC X mc ms post) {C : String} {T : u_T} {N ci index q : Nat} {fs : List Value} {v : Value} {ty : FieldType} {ty0 : Nat → FieldType} {w' : va_W} (i j : Nat) (he : w[i]? = some (q, .inr (ci, fs))) (hw' : w.set i (q, .inr (ci, fs.set j v)) = w') (hc : vwCl[ci]? = some (C, T, N)) (hin : ∀ w ∈ u_ws C T N, w ∈ BG) (hty : ∀ k, k < N → parseFieldDescriptor (T k).2.2.1 = some (ty0 k)) (hnm : ∀ a, a < N → ∀ b, b < N → a ≠ b → (T a).2.1 ≠ (T b).2.1) (hj : j < N) (hfl : Cond.fieldLink own index (T j).1 (T j).2.1 (T j).2.2.1 ∈ BG) (hfin : (T j).2.2.2 = true) (hdecl : (T j).1 = own) (hd : parseFieldDescriptor (T j).2.2.1 = some ty) (hna : narrow ty v = v) (hfit : fits ty v = true) (hlen : j < fs.length) (d : decode cc pc = .ok (.putfield index, 3)) (k : WMl X w' a b (pc + 3) nL lo st) : WMl X w a b pc nL lo (v :: .ref q :: st) := by
  obtain ⟨⟨l, dC, dI, ac⟩, p, e, R, s, m, args, below, meth, c, Q, A⟩ := X
  obtain ⟨hR, hx, hb, hml, hown, hts, hK, hA, hMF, hrt, hlk, htr⟩ := hX
  intro H locs ls hw hl
  subst hw'
  exact va_putF (ty := ty) hx hb hts hin ty0 hty hnm hown hK hw.1 hw.2.1 hw.2.2 i he hc j hj (hts _ hfl) (fun _ h9 => h9) hfin hC.2 hdecl hd hna hfit hlen d (fun H1 locs1 hP hD hS => k H1 locs1 ls ⟨hP, hD, hS⟩ hl)
/-- the constructor's own end -/
theorem tq_end (hX : CxOK X own cc nL fr lc mc ms none) {post : (Nat → Nat) → va_W} (hC : CxC X mc ms post) (is : List Nat) (q : Nat → Nat) (hnd : va_nd is = true) (hs : is.map (fun i => w[i]?) = (post q).map some) (h1 : a ≤ mc) (h2 : b ≤ ms) (d : decode cc pc = .ok (.return_, 1)) : WMl X w a b pc nL lo [] := by
  obtain ⟨⟨l, dC, dI, ac⟩, p, e, R, s, m, args, below, meth, c, Q, A⟩ := X
  obtain ⟨hRm, hx, hb, hml, hown, hts, hK, hA, hMF, hrt, hlk, htr⟩ := hX
  obtain ⟨hQ, -⟩ := hC
  cases hQ
  intro H locs ls hw hl
  refine W.widen h1 h2 ?_
  have hf : is.filterMap (fun i => w[i]?) = post q := by
    have e : ∀ (is : List Nat) (l : va_W), is.map (fun i => w[i]?) = l.map some → is.filterMap (fun i => w[i]?) = l := by
      intro is
      induction is with
      | nil => intro l h; cases l with | nil => rfl | cons x xs => cases h
      | cons i is ih =>
        intro l h
        cases l with
        | nil => cases h
        | cons x xs =>
          simp only [List.map_cons, List.cons.injEq] at h
          rw [List.filterMap_cons, h.1]
          simp only [ih xs h.2]
    exact e is _ hs
  exact W.vret hx hb hrt (fun t ht hW => ⟨rfl, ⟨q, by rw [ht]; exact hw.1.sub is hf, hK.moved hW.alike, hw.2.1.sub is hnd hs⟩, hw.2.2.F ht⟩) hw.2.2.2.2 d hlk
/-- a constructor's call: the callee's cells at the places isC, the others at isR -/
theorem tq_ctor (hX : CxOK X own cc nL fr lc mc ms rt) {y : MethodName} {bytes : ByteArray} {maxL fr' lc' mc' ms' idx n q : Nat} {As : List Value} {wc wr : va_W} {post : (Nat → Nat) → va_W} {sts : List Value} (hm : MC X.1 y bytes maxL fr' lc' mc' ms' (.ref q :: As) wc post) (isC isR : List Nat) (hC : isC.map (fun i => w[i]?) = wc.map some) (hR : isR.map (fun i => w[i]?) = wr.map some) (hnC : va_nd isC = true) (hnR : va_nd isR = true) (hdis : ∀ i ∈ isR, i ∉ isC)
    (hl1 : Cond.methodLink own idx y ∈ BG) (hi : Cond.instanceMethod y ∈ BG) (hini : Cond.initialized y.cls ∈ BG) (hco : Cond.code y bytes maxL none ∈ BG) (hyn : y.name = "<init>") (hd : y.cls ≠ "java/lang/invoke/MethodHandle" ∧ y.cls ≠ "java/lang/invoke/VarHandle") (hn' : (parseMethodDescriptor y.desc).map (fun d => d.parameters.length) = some n) (hln : As.length = n) (hroom : fr' + 1 ≤ fr ∧ 8 + (maxL + 11) + lc' ≤ lc) (hcap : a + mc' ≤ mc ∧ b + ms' ≤ ms) (hst : sts = As.reverse ++ .ref q :: st) (hcat : (st.map fun v => v.category).sum ≤ 8) (d : decode cc pc = .ok (.invokespecial idx, 3))
    (k : ∀ q' : Nat → Nat, WMl X (wr ++ post q') (a + mc') (b + ms') (pc + 3) nL lo st) : WMl X w a b pc nL lo sts := by
  obtain ⟨⟨l, dC, dI, ac⟩, p, e, R, s, m, args, below, meth, c, Q, A⟩ := X
  obtain ⟨hRm, hx, hb, hml, hown, hts, hK, hA, hMF, hrt, hlk, htr⟩ := hX
  intro H locs ls hw hl
  subst hst
  have hf : ∀ x, va_A wc H.size x → A x := va_free hw.2.1 hw.2.2 hA isC hC
  have hPc : va_P (dC, dI) vwCl wc H := by
    intro k x hk
    have h1 : (isC.map (fun i => w[i]?))[k]? = some (some x) := by rw [hC, List.getElem?_map, hk]; rfl
    rw [List.getElem?_map] at h1
    cases hi : isC[k]? with
    | none => rw [hi] at h1; cases h1
    | some i => rw [hi] at h1; exact hw.1 i x (Option.some.inj h1)
  have hDc := hw.2.1.sub isC hnC hC
  have hr : va_Run p l e R s m args below meth c H locs a b mc' ms' (F0 m pc ls (As.reverse ++ .ref q :: st)) st (QL (l, dC, dI, ac) (va_A wc H.size) post (Value.ref q :: As).toArray) (va_A wc H.size) := va_runI (As := As) (rest := st) (b := q) ⟨hx, hb, hml, hown, hts⟩ (hm htr H.size) (cwI n hts (good_code hco) rfl rfl rfl (hts _ hini) (hts _ hl1) (hts _ hi) hyn ⟨hd.1, hd.2, hn'⟩ (by rw [hRm]; exact hroom)) ⟨PreL.blind _ _ _ _, fun U hU hW => ⟨rfl, by rw [hU], by rw [hU]; exact hPc, hK.moved hW.alike, hDc.weaken (fun _ _ _ _ => trivial), by rw [hU]; exact hMF.warm hW hf hw.2.2.2.1⟩⟩ rfl hln hl.1 rfl (lv_room hcat) d (by rw [hRm]; exact hcap)
  intro T hT Xs
  obtain ⟨v, st₀, t, T', L, h0, X', hL, e1, e2, ⟨hoc, ⟨q', hP1, hK1, hD1⟩, hF⟩, go⟩ := hr T hT Xs
  cases hoc
  obtain ⟨k1, k2, k3⟩ := vx_keep h0 e1 hw.2.2 (fun q _ h => hf q h) hf hL hF
  have hP1' : va_P (dC, dI) vwCl (post q') T'.heap := by rw [e1]; exact hP1
  obtain ⟨hP, hD⟩ := va_join hw.1 hw.2.1 isC isR hC hR hnR hdis k2 hf hP1' hD1
  obtain ⟨t2, a1, b1⟩ := k q' T'.heap (locs ++ L) ls ⟨hP, hD, k3⟩ hl T' rfl X'
  exact ⟨t2, go t2 a1, b1⟩
end RowsL

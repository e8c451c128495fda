/-! contracts over the one world; calls; returns; throws -/
abbrev Rs : Type := Sum (Option Value) String
def EndW (Y : Lx) (A : Nat → Prop) (o : Nat → Nat) (hn : Nat) (M : Mem) (G : Mel) (t : State) : Prop := va_P (Y.2.1, Y.2.2.1) vwCl (Wd Y.2.2.2 o hn M G) t.heap ∧ va_K (Y.2.1, Y.2.2.1) vwCl (tysL Y.2.2.2) t ∧ va_D A (Wd Y.2.2.2 o hn M G)
def QcM (Y : Lx) (A : Nat → Prop) (o : Nat → Nat) (hn : Nat) (M : Mem) (G : Mel) (rs : Rs) : Array Value → State → Outcome → State → Prop := fun _ st oc t => (∃ rv : Option Value, rs = .inl rv ∧ oc = .returned rv) ∧ EndW Y A o hn M G t ∧ va_F A st t
def XcM (Y : Lx) (A : Nat → Prop) (o : Nat → Nat) (hn : Nat) (M : Mem) (G : Mel) (rs : Rs) : String → State → State → Prop := fun E st t => rs = .inr E ∧ EndW Y A o hn M G t ∧ va_F A st t
def PreM (Y : Lx) (o : Nat → Nat) (hn : Nat) (M : Mem) (G : Mel) (sz : Nat) (U : State) : Prop := U.heap.size = sz ∧ va_P (Y.2.1, Y.2.2.1) vwCl (Wd Y.2.2.2 o hn M G) U.heap ∧ va_K (Y.2.1, Y.2.2.1) vwCl (tysL Y.2.2.2) U ∧ va_D (fun _ => True) (Wd Y.2.2.2 o hn M G) ∧ MF (va_A (Wd Y.2.2.2 o hn M G) sz) U U.heap
/-- a method's contract: from the world of M, G with these arguments it comes to rs and the world of M', G' -/
def MI (Y : Lx) (y : MethodName) (bytes : ByteArray) (maxL : Nat) (ret : Option FieldType) (fr lc mc ms : Nat) (av : List Value) (o : Nat → Nat) (hn : Nat) (M : Mem) (G : Mel) (rs : Rs) (M' : Mem) (G' : Mel) : Prop :=
  Y.1.stackTraces = false → ∀ sz : Nat, vx_Met Y.1 y (.code y bytes maxL ret :: BG) { frames := fr, cells := mc, slots := ms, locals := lc } (va_Pc av (PreM Y o hn M G sz)) (QcM Y (va_A (Wd Y.2.2.2 o hn M G) sz) o hn M' G' rs) (XcM Y (va_A (Wd Y.2.2.2 o hn M G) sz) o hn M' G' rs) mc ms (va_A (Wd Y.2.2.2 o hn M G) sz)
def CxR (X : Cx) (mc ms : Nat) (o : Nat → Nat) (hn : Nat) (M : Mem) (G : Mel) (rs : Rs) : Prop :=
  match X with
  | (Y, _, _, _, s, _, args, below, _, _, Q, A) => Q = vx_MQ below (QcM Y A o hn M G rs) (XcM Y A o hn M G rs) args s mc ms A
def CxE (X : Cx) (tb : List ExceptionTableEntry) : Prop :=
  match X with
  | (_, _, _, _, _, _, _, _, _, c, _, _) => c.exceptionTable.toList = tb
theorem PreM.blind (Y : Lx) (av : List Value) (o : Nat → Nat) (hn : Nat) (M : Mem) (G : Mel) (sz : Nat) : FrameBlind (va_Pc av (PreM Y o hn M G sz)) := by
  intro a U g mk q
  obtain ⟨q0, q1, q2, q3, q4, q5⟩ := q
  exact ⟨q0, q1, q2, va_K.moved (u := U) (U := U.calling g mk a) (Vm.Alike.refl U.vm) q3, q4, MF.same (s := U) (U := U.calling g mk a) q5 rfl⟩
theorem va_freeAll {A0 : Nat → Prop} {ws : va_W} {H0 H : Heap} {locs : List Loc} (hD : va_D A0 ws) (hS : va_S A0 H0 H locs) (hA : ∀ q, H0.size ≤ q → A0 q) : ∀ q, va_A ws H.size q → A0 q := by
  intro q h
  rcases h with ⟨k, e, h⟩ | h
  · exact hD.2 k _ h
  · exact hA q (Nat.le_trans hS.1 h)
theorem PreM.at {Y : Lx} {A : Nat → Prop} {o : Nat → Nat} {hn : Nat} {M : Mem} {G : Mel} {s U : State} {H : Heap} {locs : List Loc} (hw : HW Y.2.1 Y.2.2.1 A (Wd Y.2.2.2 o hn M G) s.heap H locs) (hK : va_K (Y.2.1, Y.2.2.1) vwCl (tysL Y.2.2.2) s) (hA : ∀ q : Nat, s.heap.size ≤ q → A q) (hMF : MF A s s.heap) (hU : U.heap = H) (hW : s.WarmedH U.vm) : PreM Y o hn M G H.size U := by
  refine ⟨by rw [hU], by rw [hU]; exact hw.1, hK.moved hW.alike, hw.2.1.weaken (fun _ _ _ _ => trivial), ?_⟩
  rw [hU]
  exact hMF.warm hW (va_freeAll hw.2.1 hw.2.2 hA) hw.2.2.2.1
theorem MI.of {Y : Lx} {y : MethodName} {bytes : ByteArray} {maxL : Nat} {ret : Option FieldType} {fr lc mc ms : Nat} {av : List Value} {o : Nat → Nat} {hn : Nat} {M M' : Mem} {G G' : Mel} {rs : Rs} (hy : plainName y.cls = true) (hlen : (lg_sl av).length ≤ maxL)
    (body : ∀ X : Cx, X.1 = Y → CxOK X y.cls bytes maxL fr lc mc ms ret → CxE X [] → CxR X mc ms o hn M' G' rs → WM X o hn M G 0 0 0 maxL (lv_args 0 av) []) : MI Y y bytes maxL ret fr lc mc ms av o hn M G rs M' G' := by
  intro htr sz
  refine vx_ofW (cc := bytes) (maxL := maxL) (ret := ret) hy rfl ?_
  intro p e s m args below meth c s₁ B hml hno hv
  obtain ⟨rfl, hsz, hP, hK, hD0, hMF⟩ := hv
  subst hsz
  have hts := atoms_spec (ws := .code y bytes maxL ret :: BG) B.pre
  have hne : c.exceptionTable.toList = [] := by
    cases h : c.exceptionTable.toList with
    | nil => rfl
    | cons x xs => exact (hno x (by rw [h]; exact List.mem_cons_self)).elim
  have key := body (Y, p, e, { frames := fr, cells := mc, slots := ms, locals := lc }, s, m, av.toArray, below, meth, c, _, va_A (Wd Y.2.2.2 o hn M G) s.heap.size) rfl ⟨rfl, B.exec, B.bytes, hml, findClass_of_methodNamed B.named, fun w h => hts w (List.mem_cons_of_mem _ h), hK, fun q h => Or.inr h, hMF, B.returns, B.notSynchronized, htr⟩ hne rfl
  rw [lg_entry_eq]
  exact key s.heap [] _ ⟨hP, hD0.self, va_S.rf⟩ (lv_entry av hlen)
section Ends
variable {X : Cx} {own : String} {cc : ByteArray} {nL fr lc mc ms : Nat} {rt : Option FieldType} {o : Nat → Nat} {hn : Nat} {M : Mem} {G : Mel} {a b pc : Nat} {lo : List (Nat × Value)} {st : List Value}
theorem q_widen {k n : Nat} (h1 : a ≤ k) (h2 : b ≤ n) (kk : WM X o hn M G k n pc nL lo st) : WM X o hn M G a b pc nL lo st := by
  obtain ⟨⟨l, dC, dI, ac⟩, p, e, R, s, m, args, below, meth, c, Q, A⟩ := X
  intro H locs ls hw hl
  exact W.widen h1 h2 (kk H locs ls hw hl)
theorem q_iret (hX : CxOK X own cc nL fr lc mc ms (some .int)) {v : Int32} (hR : CxR X mc ms o hn M G (.inl (some (.int v)))) (h1 : a ≤ mc) (h2 : b ≤ ms) (d : decode cc pc = .ok (.ireturn, 1)) : WM X o hn M G a b pc nL lo [.int v] := by
  refine q_widen h1 h2 ?_
  obtain ⟨⟨l, dC, dI, ac⟩, p, e, R, s, m, args, below, meth, c, Q, A⟩ := X
  obtain ⟨hRm, hx, hb, hml, hown, hts, hK, hA, hMF, hrt, hlk, htr⟩ := hX
  cases hR
  intro H locs ls hw hl
  exact vx_ret (W.iret (v := v) hx hb hrt (fun t ht hW => ⟨⟨_, rfl, rfl⟩, ⟨by rw [ht]; exact hw.1, hK.moved hW.alike, hw.2.1⟩, hw.2.2.F ht⟩) hw.2.2.2.2 d hlk)
theorem q_zret (hX : CxOK X own cc nL fr lc mc ms (some .boolean)) {v : Int32} (hv : v = 0 ∨ v = 1) (hR : CxR X mc ms o hn M G (.inl (some (.int v)))) (h1 : a ≤ mc) (h2 : b ≤ ms) (d : decode cc pc = .ok (.ireturn, 1)) : WM X o hn M G a b pc nL lo [.int v] := by
  refine q_widen h1 h2 ?_
  obtain ⟨⟨l, dC, dI, ac⟩, p, e, R, s, m, args, below, meth, c, Q, A⟩ := X
  obtain ⟨hRm, hx, hb, hml, hown, hts, hK, hA, hMF, hrt, hlk, htr⟩ := hX
  cases hR
  intro H locs ls hw hl
  exact vx_ret (W.zret (v := v) (ty := .boolean) hx hb hrt (by rcases hv with rfl | rfl <;> rfl) (fun t ht hW => ⟨⟨_, rfl, rfl⟩, ⟨by rw [ht]; exact hw.1, hK.moved hW.alike, hw.2.1⟩, hw.2.2.F ht⟩) hw.2.2.2.2 d hlk)
theorem q_lret (hX : CxOK X own cc nL fr lc mc ms (some .long)) {v : Int64} (hR : CxR X mc ms o hn M G (.inl (some (.long v)))) (h1 : a ≤ mc) (h2 : b ≤ ms) (d : decode cc pc = .ok (.lreturn, 1)) : WM X o hn M G a b pc nL lo [.long v] := by
  refine q_widen h1 h2 ?_
  obtain ⟨⟨l, dC, dI, ac⟩, p, e, R, s, m, args, below, meth, c, Q, A⟩ := X
  obtain ⟨hRm, hx, hb, hml, hown, hts, hK, hA, hMF, hrt, hlk, htr⟩ := hX
  cases hR
  intro H locs ls hw hl
  exact vx_ret (W.lret (v := v) hx hb hrt (fun t ht hW => ⟨⟨_, rfl, rfl⟩, ⟨by rw [ht]; exact hw.1, hK.moved hW.alike, hw.2.1⟩, hw.2.2.F ht⟩) hw.2.2.2.2 d hlk)
theorem q_aret (hX : CxOK X own cc nL fr lc mc ms (some (.object "Timesheets$Employee"))) {q : Nat} (hR : CxR X mc ms o hn M G (.inl (some (.ref q)))) (h1 : a ≤ mc) (h2 : b ≤ ms) (d : decode cc pc = .ok (.areturn, 1)) : WM X o hn M G a b pc nL lo [.ref q] := by
  refine q_widen h1 h2 ?_
  obtain ⟨⟨l, dC, dI, ac⟩, p, e, R, s, m, args, below, meth, c, Q, A⟩ := X
  obtain ⟨hRm, hx, hb, hml, hown, hts, hK, hA, hMF, hrt, hlk, htr⟩ := hX
  cases hR
  intro H locs ls hw hl
  exact vx_ret (W.aret (v := .ref q) hx hb hrt (Or.inl ⟨_, rfl⟩) (Or.inr ⟨_, rfl⟩) (fun t ht hW => ⟨⟨_, rfl, rfl⟩, ⟨by rw [ht]; exact hw.1, hK.moved hW.alike, hw.2.1⟩, hw.2.2.F ht⟩) hw.2.2.2.2 d hlk)
theorem q_vret (hX : CxOK X own cc nL fr lc mc ms none) (hR : CxR X mc ms o hn M G (.inl none)) (h1 : a ≤ mc) (h2 : b ≤ ms) (d : decode cc pc = .ok (.return_, 1)) : WM X o hn M G a b pc nL lo [] := by
  refine q_widen h1 h2 ?_
  obtain ⟨⟨l, dC, dI, ac⟩, p, e, R, s, m, args, below, meth, c, Q, A⟩ := X
  obtain ⟨hRm, hx, hb, hml, hown, hts, hK, hA, hMF, hrt, hlk, htr⟩ := hX
  cases hR
  intro H locs ls hw hl
  exact vx_ret (W.vret hx hb hrt (fun t ht hW => ⟨⟨_, rfl, rfl⟩, ⟨by rw [ht]; exact hw.1, hK.moved hW.alike, hw.2.1⟩, hw.2.2.F ht⟩) hw.2.2.2.2 d hlk)
end Ends
section Calls
variable {X : Cx} {own : String} {cc : ByteArray} {nL fr lc mc0 ms0 : Nat} {rt : Option FieldType} {o : Nat → Nat} {hn : Nat} {M M' : Mem} {G G' : Mel} {a b pc : Nat} {lo : List (Nat × Value)} {st st' rest : List Value}
variable {y : MethodName} {bytes : ByteArray} {maxL fr' lc' mc ms idx : Nat} {ret : Option FieldType} {As : List Value} {rv : Option Value} {E : String}
/-- the words of a virtual call -/
def VL (own : String) (idx : Nat) (y : MethodName) (bytes : ByteArray) (maxL : Nat) (ret : Option FieldType) : Prop := Cond.methodLink own idx y ∈ BG ∧ Cond.instanceMethod y ∈ BG ∧ Cond.selects y.cls y y ∈ BG ∧ Cond.initialized y.cls ∈ BG ∧ Cond.code y bytes maxL ret ∈ BG ∧ y.cls ≠ "java/lang/invoke/MethodHandle" ∧ y.cls ≠ "java/lang/invoke/VarHandle"
def SL (own : String) (idx : Nat) (y : MethodName) (bytes : ByteArray) (maxL : Nat) (ret : Option FieldType) : Prop := Cond.methodLink own idx y ∈ BG ∧ Cond.static y ∈ BG ∧ Cond.initialized y.cls ∈ BG ∧ Cond.code y bytes maxL ret ∈ BG ∧ y.cls ≠ "java/lang/invoke/MethodHandle" ∧ y.cls ≠ "java/lang/invoke/VarHandle" ∧ y.cls = own
theorem good_code (hc : Cond.code y bytes maxL ret ∈ BG) : GoodIn BG (Cond.code y bytes maxL ret :: BG) := by
  intro w hw
  rcases List.mem_cons.mp hw with rfl | hw
  · exact ⟨hc, BG_good _ hc⟩
  · exact ⟨hw, BG_good _ hw⟩
theorem good_V (h : VL own idx y bytes maxL ret) : GoodIn BG (wsV own idx y.cls y (Cond.code y bytes maxL ret :: BG)) := by
  obtain ⟨h1, h2, h3, h4, h5, -, -⟩ := h
  intro w hw
  rcases List.mem_append.mp hw with hw | hw
  · simp only [List.mem_cons, List.not_mem_nil, or_false] at hw
    rcases hw with rfl | rfl | rfl | rfl
    · exact ⟨h1, BG_good _ h1⟩
    · exact ⟨h2, BG_good _ h2⟩
    · exact ⟨h3, BG_good _ h3⟩
    · exact ⟨h4, BG_good _ h4⟩
  · exact good_code h5 w hw
theorem good_S (h : SL own idx y bytes maxL ret) : GoodIn BG (wsS own idx y (Cond.code y bytes maxL ret :: BG)) := by
  obtain ⟨h1, h2, h3, h5, -, -, h8⟩ := h
  intro w hw
  rcases List.mem_append.mp hw with hw | hw
  · simp only [List.mem_cons, List.not_mem_nil, or_false] at hw
    rcases hw with rfl | rfl | rfl
    · exact ⟨h1, BG_good _ h1⟩
    · exact ⟨h2, BG_good _ h2⟩
    · rw [← h8]; exact ⟨h3, BG_good _ h3⟩
  · exact good_code h5 w hw
/-- behind a call that returned -/
theorem q_ok {Y : Lx} {p : Program} {e : Env} {R : Room} {s : State} {m : MethodId} {args : Array Value} {below : List Frame} {meth : Method} {c : Code} {Q : State → Prop} {A : Nat → Prop} {H : Heap} {locs : List Loc} {ls : Array Slot} {av : Array Value} (hA : ∀ q : Nat, s.heap.size ≤ q → A q) (hw : HW Y.2.1 Y.2.2.1 A (Wd Y.2.2.2 o hn M G) s.heap H locs) (hl : lv_has ls nL lo)
    (hr : vx_Run p Y.1 e R s m args below meth c H locs a b mc ms (F0 m pc ls st) rest (QcM Y (va_A (Wd Y.2.2.2 o hn M G) H.size) o hn M' G' (.inl rv) av) (XcM Y (va_A (Wd Y.2.2.2 o hn M G) H.size) o hn M' G' (.inl rv)) (va_A (Wd Y.2.2.2 o hn M G) H.size)) (hst' : rv.toList ++ rest = st')
    (k : WM (Y, p, e, R, s, m, args, below, meth, c, Q, A) o hn M' G' (a + mc) (b + ms) (pc + 3) nL lo st') : W p Y.1 e R s m args below meth c H locs a b Q (F0 m pc ls st) := by
  have hf := va_freeAll hw.2.1 hw.2.2 hA
  subst hst'
  intro T hT Xs
  rcases hr T hT Xs with ⟨v, st₀, t, T', L, h0, X', hL, e1, e2, ⟨⟨rv', hrs, hoc⟩, hE, hF⟩, go⟩ | ⟨q, st₀, t, T', L, E, ce, h0, X', hL, e1, e2, ⟨hrs, -⟩, -⟩
  · cases hrs
    cases hoc
    obtain ⟨k1, k2, k3⟩ := vx_keep h0 e1 hw.2.2 (fun q _ h => hf q h) hf hL hF
    have hS' : va_S A s.heap T'.heap (locs ++ L) := k3
    obtain ⟨t2, a1, b1⟩ := k T'.heap (locs ++ L) ls ⟨by rw [e1]; exact hE.1, hE.2.2.weaken (fun _ q _ h => hf q.1 h), hS'⟩ hl T' rfl X'
    exact ⟨t2, go t2 a1, b1⟩
  · cases hrs
theorem q_runV (hX : CxOK X own cc nL fr lc mc0 ms0 rt) {ci id n : Nat} {fs : List Value} {vc : vw_C} {rs : Rs} (hm : MI X.1 y bytes maxL ret fr' lc' mc ms (.ref (o id) :: As) o hn M G rs M' G') (hv : VL own idx y bytes maxL ret) (hk : IDL o hn id) (he : ob X.1.2.2.2 o hn id (M id) (G id) = .inr (ci, fs)) (hc : vwCl[ci]? = some vc) (hvc : vc.1 = y.cls)
    (hn' : (parseMethodDescriptor y.desc).map (fun d => d.parameters.length) = some n) (hln : As.length = n) (hroom : fr' + 1 ≤ fr ∧ 8 + (maxL + 11) + lc' ≤ lc) (hcap : a + mc ≤ mc0 ∧ b + ms ≤ ms0) (hst : st = As.reverse ++ .ref (o id) :: rest) (hcat : (rest.map fun v => v.category).sum ≤ 8) (d : decode cc pc = .ok (.invokevirtual idx, 3)) :
    match X with
    | (Y, p, e, R, s, m, args, below, meth, c, Q, A) => ∀ (H : Heap) (locs : List Loc) (ls : Array Slot), HW Y.2.1 Y.2.2.1 A (Wd Y.2.2.2 o hn M G) s.heap H locs → lv_has ls nL lo → vx_Run p Y.1 e R s m args below meth c H locs a b mc ms (F0 m pc ls st) rest (QcM Y (va_A (Wd Y.2.2.2 o hn M G) H.size) o hn M' G' rs (Value.ref (o id) :: As).toArray) (XcM Y (va_A (Wd Y.2.2.2 o hn M G) H.size) o hn M' G' rs) (va_A (Wd Y.2.2.2 o hn M G) H.size) := by
  obtain ⟨⟨l, dC, dI, ac⟩, p, e, R, s, m, args, below, meth, c, Q, A⟩ := X
  obtain ⟨hRm, hx, hb, hml, hown, hts, hK, hA, hMF, hrt, hlk, htr⟩ := hX
  intro H locs ls hw hl
  subst hst
  exact vx_runV (As := As) (b := o id) (rest := rest) ⟨hx, hb, hml, hown, hts⟩ (hm htr H.size) (cwV n hts (good_V hv) rfl rfl rfl ⟨rfl, hv.2.2.2.2.2.1, hv.2.2.2.2.2.2, hn'⟩ (by rw [hRm]; exact hroom)) ⟨PreM.blind _ _ _ _ _ _ _, by rw [← hvc]; exact va_recv hK hw.1 hc (wd_at hk he), fun U hU hW => ⟨rfl, PreM.at (Y := (l, dC, dI, ac)) hw hK hA hMF hU hW⟩⟩ rfl hln hl.1 rfl (lv_room hcat) d (by rw [hRm]; exact hcap)
theorem q_runS (hX : CxOK X own cc nL fr lc mc0 ms0 rt) {n : Nat} {rs : Rs} (hm : MI X.1 y bytes maxL ret fr' lc' mc ms As o hn M G rs M' G') (hv : SL own idx y bytes maxL ret)
    (hn' : (parseMethodDescriptor y.desc).map (fun d => d.parameters.length) = some n) (hln : As.length = n) (hroom : fr' + 1 ≤ fr ∧ 8 + (maxL + 11) + lc' ≤ lc) (hcap : a + mc ≤ mc0 ∧ b + ms ≤ ms0) (hst : st = As.reverse ++ rest) (hcat : (rest.map fun v => v.category).sum ≤ 8) (d : decode cc pc = .ok (.invokestatic idx, 3)) :
    match X with
    | (Y, p, e, R, s, m, args, below, meth, c, Q, A) => ∀ (H : Heap) (locs : List Loc) (ls : Array Slot), HW Y.2.1 Y.2.2.1 A (Wd Y.2.2.2 o hn M G) s.heap H locs → lv_has ls nL lo → vx_Run p Y.1 e R s m args below meth c H locs a b mc ms (F0 m pc ls st) rest (QcM Y (va_A (Wd Y.2.2.2 o hn M G) H.size) o hn M' G' rs As.toArray) (XcM Y (va_A (Wd Y.2.2.2 o hn M G) H.size) o hn M' G' rs) (va_A (Wd Y.2.2.2 o hn M G) H.size) := by
  obtain ⟨⟨l, dC, dI, ac⟩, p, e, R, s, m, args, below, meth, c, Q, A⟩ := X
  obtain ⟨hRm, hx, hb, hml, hown, hts, hK, hA, hMF, hrt, hlk, htr⟩ := hX
  intro H locs ls hw hl
  subst hst
  exact vx_runS (As := As) (rest := rest) ⟨hx, hb, hml, hown, hts⟩ (hm htr H.size) (cwS n hts (good_S hv) rfl rfl rfl ⟨hv.2.2.2.2.2.2, hv.2.2.2.2.1, hv.2.2.2.2.2.1, hn'⟩ (by rw [hRm]; exact hroom)) ⟨PreM.blind _ _ _ _ _ _ _, fun U hU hW => ⟨rfl, PreM.at (Y := (l, dC, dI, ac)) hw hK hA hMF hU hW⟩⟩ rfl hln hl.1 rfl (lv_room hcat) d (by rw [hRm]; exact hcap)
theorem q_callV (hX : CxOK X own cc nL fr lc mc0 ms0 rt) {ci id n : Nat} {fs : List Value} {vc : vw_C} (hm : MI X.1 y bytes maxL ret fr' lc' mc ms (.ref (o id) :: As) o hn M G (.inl rv) M' G') (hv : VL own idx y bytes maxL ret) (hk : IDL o hn id) (he : ob X.1.2.2.2 o hn id (M id) (G id) = .inr (ci, fs)) (hc : vwCl[ci]? = some vc) (hvc : vc.1 = y.cls)
    (hn' : (parseMethodDescriptor y.desc).map (fun d => d.parameters.length) = some n) (hln : As.length = n) (hroom : fr' + 1 ≤ fr ∧ 8 + (maxL + 11) + lc' ≤ lc) (hcap : a + mc ≤ mc0 ∧ b + ms ≤ ms0) (hst : st = As.reverse ++ .ref (o id) :: rest) (hcat : (rest.map fun v => v.category).sum ≤ 8) (hst' : rv.toList ++ rest = st') (d : decode cc pc = .ok (.invokevirtual idx, 3))
    (k : WM X o hn M' G' (a + mc) (b + ms) (pc + 3) nL lo st') : WM X o hn M G a b pc nL lo st := by
  have hr := q_runV hX (lo := lo) hm hv hk he hc hvc hn' hln hroom hcap hst hcat d
  obtain ⟨⟨l, dC, dI, ac⟩, p, e, R, s, m, args, below, meth, c, Q, A⟩ := X
  obtain ⟨hRm, hx, hb, hml, hown, hts, hK, hA, hMF, hrt, hlk, htr⟩ := hX
  intro H locs ls hw hl
  exact q_ok (Y := (l, dC, dI, ac)) hA hw hl (hr H locs ls hw hl) hst' k
theorem q_callS (hX : CxOK X own cc nL fr lc mc0 ms0 rt) {n : Nat} (hm : MI X.1 y bytes maxL ret fr' lc' mc ms As o hn M G (.inl rv) M' G') (hv : SL own idx y bytes maxL ret)
    (hn' : (parseMethodDescriptor y.desc).map (fun d => d.parameters.length) = some n) (hln : As.length = n) (hroom : fr' + 1 ≤ fr ∧ 8 + (maxL + 11) + lc' ≤ lc) (hcap : a + mc ≤ mc0 ∧ b + ms ≤ ms0) (hst : st = As.reverse ++ rest) (hcat : (rest.map fun v => v.category).sum ≤ 8) (hst' : rv.toList ++ rest = st') (d : decode cc pc = .ok (.invokestatic idx, 3))
    (k : WM X o hn M' G' (a + mc) (b + ms) (pc + 3) nL lo st') : WM X o hn M G a b pc nL lo st := by
  have hr := q_runS hX (lo := lo) hm hv hn' hln hroom hcap hst hcat d
  obtain ⟨⟨l, dC, dI, ac⟩, p, e, R, s, m, args, below, meth, c, Q, A⟩ := X
  obtain ⟨hRm, hx, hb, hml, hown, hts, hK, hA, hMF, hrt, hlk, htr⟩ := hX
  intro H locs ls hw hl
  exact q_ok (Y := (l, dC, dI, ac)) hA hw hl (hr H locs ls hw hl) hst' k
/-- a private static method of the nest's host -/
theorem q_callSN (hX : CxOK X own cc nL fr lc mc0 ms0 rt) {n : Nat} {host : String} (hm : MI X.1 y bytes maxL ret fr' lc' mc ms As o hn M G (.inl rv) M' G') (hlk : Cond.methodLinkNest own idx y host ∈ lw_tbl) (hsta : Cond.static y ∈ BG) (hini : Cond.initialized y.cls ∈ BG) (hco : Cond.code y bytes maxL ret ∈ BG) (hcls : y.cls ≠ "java/lang/invoke/MethodHandle" ∧ y.cls ≠ "java/lang/invoke/VarHandle")
    (hn' : (parseMethodDescriptor y.desc).map (fun d => d.parameters.length) = some n) (hln : As.length = n) (hroom : fr' + 1 ≤ fr ∧ 8 + (maxL + 11) + lc' ≤ lc) (hcap : a + mc ≤ mc0 ∧ b + ms ≤ ms0) (hst : st = As.reverse ++ rest) (hcat : (rest.map fun v => v.category).sum ≤ 8) (hst' : rv.toList ++ rest = st') (d : decode cc pc = .ok (.invokestatic idx, 3))
    (k : WM X o hn M' G' (a + mc) (b + ms) (pc + 3) nL lo st') : WM X o hn M G a b pc nL lo st := by
  obtain ⟨⟨l, dC, dI, ac⟩, p, e, R, s, m, args, below, meth, c, Q, A⟩ := X
  obtain ⟨hRm, hx, hb, hml, hown, hts, hK, hA, hMF, hrt, hlk2, htr⟩ := hX
  intro H locs ls hw hl
  subst hst
  have hr : vx_Run p l e R s m args below meth c H locs a b mc ms (F0 m pc ls (As.reverse ++ rest)) rest (QcM (l, dC, dI, ac) (va_A (Wd ac o hn M G) H.size) o hn M' G' (.inl rv) As.toArray) (XcM (l, dC, dI, ac) (va_A (Wd ac o hn M G) H.size) o hn M' G' (.inl rv)) (va_A (Wd ac o hn M G) H.size) := vx_runSN (As := As) (rest := rest) ⟨hx, hb, hml, hown, hts⟩ (hm htr H.size) ⟨va_cnB n hts (good_code hco) rfl rfl rfl (hMF.1 _ hlk rfl) (hts _ hini) ⟨hcls.1, hcls.2, hn'⟩ (by rw [hRm]; exact hroom), hts _ hsta, trivial⟩ ⟨PreM.blind _ _ _ _ _ _ _, fun U hU hW => ⟨rfl, PreM.at (Y := (l, dC, dI, ac)) hw hK hA hMF hU hW⟩⟩ rfl hln hl.1 rfl (lv_room hcat) d (by rw [hRm]; exact hcap)
  exact q_ok (Y := (l, dC, dI, ac)) hA hw hl hr hst' k
end Calls

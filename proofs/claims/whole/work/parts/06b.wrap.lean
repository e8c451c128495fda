/-! methods with a table of handlers, and their call -/
def MIW (Y : Lx) (y : MethodName) (bytes : ByteArray) (maxL : Nat) (ret : Option FieldType) (hh : List (Nat × Nat × Nat × Nat)) (fr lc mc ms : Nat) (av : List Value) (o : Nat → Nat) (hn : Nat) (M : Mem) (G : Mel) (rs : Rs) (M' : Mem) (G' : Mel) : Prop :=
  Y.1.stackTraces = false → ∀ sz : Nat, vx_Met Y.1 y (.codeWith y bytes maxL ret hh :: BG) { frames := fr, cells := mc, slots := ms, locals := lc } (va_Pc av (PreM Y o hn M G sz)) (QcM Y (va_A (Wd Y.2.2.2 o hn M G) sz) o hn M' G' rs) (XcM Y (va_A (Wd Y.2.2.2 o hn M G) sz) o hn M' G' rs) mc ms (va_A (Wd Y.2.2.2 o hn M G) sz)
theorem MIW.of {Y : Lx} {y : MethodName} {bytes : ByteArray} {maxL : Nat} {ret : Option FieldType} {hh : List (Nat × Nat × Nat × Nat)} {fr lc mc ms : Nat} {av : List Value} {o : Nat → Nat} {hn : Nat} {M M' : Mem} {G G' : Mel} {rs : Rs} (hy : plainName y.cls = true) (hlen : (lg_sl av).length ≤ maxL)
    (body : ∀ X : Cx, X.1 = Y → CxOK X y.cls bytes maxL fr lc mc ms ret → CxE X (tableOf hh) → CxR X mc ms o hn M' G' rs → WM X o hn M G 0 0 0 maxL (lv_args 0 av) []) : MIW Y y bytes maxL ret hh fr lc mc ms av o hn M G rs M' G' := by
  intro htr sz
  refine vx_ofWH (cc := bytes) (maxL := maxL) (ret := ret) hy rfl ?_
  intro p e s m args below meth c s₁ B hml hv
  obtain ⟨rfl, hsz, hP, hK, hD0, hMF⟩ := hv
  subst hsz
  have hts := atoms_spec (ws := .codeWith y bytes maxL ret hh :: BG) B.pre
  have hne : c.exceptionTable.toList = tableOf hh := vx_table (x := y) B (hts _ List.mem_cons_self)
  have key := body (Y, p, e, { frames := fr, cells := mc, slots := ms, locals := lc }, s, m, av.toArray, below, meth, c, _, va_A (Wd Y.2.2.2 o hn M G) s.heap.size) rfl ⟨rfl, B.exec, B.bytes, hml, findClass_of_methodNamed B.named, fun w h => hts w (List.mem_cons_of_mem _ h), hK, fun q h => Or.inr h, hMF, B.returns, B.notSynchronized, htr⟩ hne rfl
  rw [lg_entry_eq]
  exact key s.heap [] _ ⟨hP, hD0.self, va_S.rf⟩ (lv_entry av hlen)
theorem MI_x1 {Y : Lx} {y : MethodName} {bytes : ByteArray} {maxL : Nat} {ret : Option FieldType} {fr lc mc ms : Nat} {av : List Value} {o : Nat → Nat} {hn : Nat} {M M' : Mem} {G G' : Mel} {k : Nat} {rv : Option Value} (hk : k = 1) (h : MI Y y bytes maxL ret fr lc mc ms av o hn M G (rsOf k rv) M' G') : MI Y y bytes maxL ret fr lc mc ms av o hn M G (.inr eIAE) M' G' := by subst hk; exact h
theorem MI_x2 {Y : Lx} {y : MethodName} {bytes : ByteArray} {maxL : Nat} {ret : Option FieldType} {fr lc mc ms : Nat} {av : List Value} {o : Nat → Nat} {hn : Nat} {M M' : Mem} {G G' : Mel} {k : Nat} {rv : Option Value} (hk : k = 2) (h : MI Y y bytes maxL ret fr lc mc ms av o hn M G (rsOf k rv) M' G') : MI Y y bytes maxL ret fr lc mc ms av o hn M G (.inr eISE) M' G' := by subst hk; exact h
theorem MI_x3 {Y : Lx} {y : MethodName} {bytes : ByteArray} {maxL : Nat} {ret : Option FieldType} {fr lc mc ms : Nat} {av : List Value} {o : Nat → Nat} {hn : Nat} {M M' : Mem} {G G' : Mel} {k : Nat} {rv : Option Value} (hk : k = 3) (h : MI Y y bytes maxL ret fr lc mc ms av o hn M G (rsOf k rv) M' G') : MI Y y bytes maxL ret fr lc mc ms av o hn M G (.inr eIOB) M' G' := by subst hk; exact h
theorem MI_x4 {Y : Lx} {y : MethodName} {bytes : ByteArray} {maxL : Nat} {ret : Option FieldType} {fr lc mc ms : Nat} {av : List Value} {o : Nat → Nat} {hn : Nat} {M M' : Mem} {G G' : Mel} {k : Nat} {rv : Option Value} (hk : k = 4) (h : MI Y y bytes maxL ret fr lc mc ms av o hn M G (rsOf k rv) M' G') : MI Y y bytes maxL ret fr lc mc ms av o hn M G (.inr eNSE) M' G' := by subst hk; exact h
section Wraps
variable {X : Cx} {own : String} {cc : ByteArray} {nL fr lc mc0 ms0 : Nat} {rt : Option FieldType} {o : Nat → Nat} {hn : Nat} {M M' : Mem} {G G' : Mel} {a b pc : Nat} {lo : List (Nat × Value)} {st st' rest : List Value}
variable {y : MethodName} {bytes : ByteArray} {maxL fr' lc' mc ms idx : Nat} {ret : Option FieldType} {As : List Value} {rv : Option Value} {E : String}
theorem q_catch (hX : CxOK X own cc nL fr lc mc0 ms0 rt) {tbl : List ExceptionTableEntry} (hE : CxE X tbl) (pre : List ExceptionTableEntry) (x : ExceptionTableEntry) (suf : List ExceptionTableEntry) (hsplit : tbl = pre ++ x :: suf)
    (hpass : ∀ z ∈ pre, z.catchType ≠ 0 ∧ ∃ nm : String, Cond.classLink own z.catchType nm ∈ BG ∧ (E, nm) ∈ ncL) (hcov : covers x pc = true) (h0 : x.catchType ≠ 0) (hlink : Cond.classLink own x.catchType E ∈ BG) (hcast : Cond.castable E E ∈ lw_tbl)
    (k : ∀ q : Nat, WM X o hn M G a b x.handlerPc nL lo [.ref q]) : WX X o hn M G a b pc nL lo rest E := by
  obtain ⟨⟨l, dC, dI, ac⟩, p, e, R, s, m, args, below, meth, c, Q, A⟩ := X
  obtain ⟨hRm, hx, hb, hml, hown, hts, hK, hA, hMF, hrt, hlk, htr⟩ := hX
  intro H locs ls q ce hw hl hcell hv hcl
  refine vx_catch (name := E) (E := E) hown pre x suf (by rw [← hsplit]; exact hE) (fun z hz => ?_) hcov h0 (hts _ hlink) (xtra_use rfl (hMF.1 _ hcast rfl)) hcell hv hcl (k q H locs ls hw hl)
  obtain ⟨h1, nm, h2, h3⟩ := hpass z hz
  exact Or.inr ⟨h1, nm, hts _ h2, hMF.2.2.1 _ h3⟩
/-- the words of a static call of a method with handlers -/
def WL (own : String) (idx : Nat) (y : MethodName) (bytes : ByteArray) (maxL : Nat) (ret : Option FieldType) (hh : List (Nat × Nat × Nat × Nat)) : Prop := Cond.methodLink own idx y ∈ BG ∧ Cond.static y ∈ BG ∧ Cond.initialized y.cls ∈ BG ∧ Cond.codeWith y bytes maxL ret hh ∈ BG ∧ y.cls ≠ "java/lang/invoke/MethodHandle" ∧ y.cls ≠ "java/lang/invoke/VarHandle"
theorem good_W {hh : List (Nat × Nat × Nat × Nat)} (h : WL own idx y bytes maxL ret hh) : GoodIn BG (va_wsS own idx y (Cond.codeWith y bytes maxL ret hh :: BG)) := by
  obtain ⟨h1, h2, h3, h5, -, -⟩ := h
  intro w hw
  rcases List.mem_append.mp hw with hw | hw
  · simp only [List.mem_cons, List.not_mem_nil, or_false] at hw
    rcases hw with rfl | rfl | rfl
    · exact ⟨h1, BG_good _ h1⟩
    · exact ⟨h2, BG_good _ h2⟩
    · exact ⟨h3, BG_good _ h3⟩
  · rcases List.mem_cons.mp hw with rfl | hw
    · exact ⟨h5, BG_good _ h5⟩
    · exact ⟨hw, BG_good _ hw⟩
theorem q_callW (hX : CxOK X own cc nL fr lc mc0 ms0 rt) {n : Nat} {hh : List (Nat × Nat × Nat × Nat)} (hm : MIW X.1 y bytes maxL ret hh fr' lc' mc ms As o hn M G (.inl rv) M' G') (hv : WL own idx y bytes maxL ret hh)
    (hn' : (parseMethodDescriptor y.desc).map (fun d => d.parameters.length) = some n) (hln : As.length = n) (hroom : fr' + 1 ≤ fr ∧ 8 + (maxL + 11) + lc' ≤ lc) (hcap : a + mc ≤ mc0 ∧ b + ms ≤ ms0) (hst : st = As.reverse ++ rest) (hcat : (rest.map fun v => v.category).sum ≤ 8) (hst' : rv.toList ++ rest = st') (d : decode cc pc = .ok (.invokestatic idx, 3))
    (k : WM X o hn M' G' (a + mc) (b + ms) (pc + 3) nL lo st') : WM X o hn M G a b pc nL lo st := by
  obtain ⟨⟨l, dC, dI, ac⟩, p, e, R, s, m, args, below, meth, c, Q, A⟩ := X
  obtain ⟨hRm, hx, hb, hml, hown, hts, hK, hA, hMF, hrt, hlk2, htr⟩ := hX
  intro H locs ls hw hl
  subst hst
  have hr : vx_Run p l e R s m args below meth c H locs a b mc ms (F0 m pc ls (As.reverse ++ rest)) rest (QcM (l, dC, dI, ac) (va_A (Wd ac o hn M G) H.size) o hn M' G' (.inl rv) As.toArray) (XcM (l, dC, dI, ac) (va_A (Wd ac o hn M G) H.size) o hn M' G' (.inl rv)) (va_A (Wd ac o hn M G) H.size) := vx_runSX (hh := hh) (As := As) (rest := rest) ⟨hx, hb, hml, hown, hts⟩ (hm htr H.size) (vx_cwSW n hts (good_W hv) rfl rfl rfl ⟨hv.2.2.2.2.1, hv.2.2.2.2.2, hn'⟩ (by rw [hRm]; exact hroom)) ⟨PreM.blind _ _ _ _ _ _ _, fun U hU hW => ⟨rfl, PreM.at (Y := (l, dC, dI, ac)) hw hK hA hMF hU hW⟩⟩ rfl hln hl.1 rfl (lv_room hcat) d (by rw [hRm]; exact hcap)
  exact q_ok (Y := (l, dC, dI, ac)) hA hw hl hr hst' k
end Wraps

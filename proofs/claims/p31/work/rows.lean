section
-- ===== PART A: goes FIRST, ahead of the names: the tables' words, and 'selects' of the private methods out of them =====
/-- a private method of a class that the tables say can be made, by its rows of tables_1 -/
def lw_okq (q : MethodName × Nat) : Prop := (q.1.cls ≠ "java/lang/invoke/MethodHandle" ∧ q.1.cls ≠ "java/lang/invoke/VarHandle") ∧ Cond.instantiable q.1.cls q.2 ∈ tables_1 ∧ Cond.privateMethod q.1 ∈ tables_1 ∧ Cond.instanceMethod q.1 ∈ tables_1
theorem lw_p0 : lw_okq (⟨"java/lang/Throwable", "fillInStackTrace", "(I)Ljava/lang/Throwable;"⟩, 6) := ⟨⟨by decide +kernel, by decide +kernel⟩, List.mem_of_getElem? (i := 182) (by decide +kernel), List.mem_of_getElem? (i := 180) (by decide +kernel), List.mem_of_getElem? (i := 181) (by decide +kernel)⟩
theorem lw_p1 : lw_okq (⟨"Timesheets", "find", "(I)LTimesheets$Employee;"⟩, 6) := ⟨⟨by decide +kernel, by decide +kernel⟩, List.mem_of_getElem? (i := 16) (by decide +kernel), List.mem_of_getElem? (i := 267) (by decide +kernel), List.mem_of_getElem? (i := 268) (by decide +kernel)⟩
theorem lw_p2 : lw_okq (⟨"Timesheets$Shifts", "addFromIn", "(LTimesheets$Table;I)V"⟩, 2) := ⟨⟨by decide +kernel, by decide +kernel⟩, List.mem_of_getElem? (i := 66) (by decide +kernel), List.mem_of_getElem? (i := 354) (by decide +kernel), List.mem_of_getElem? (i := 355) (by decide +kernel)⟩
theorem lw_p3 : lw_okq (⟨"Timesheets$Shifts", "addFromLoneOut", "(LTimesheets$Table;I)V"⟩, 2) := ⟨⟨by decide +kernel, by decide +kernel⟩, List.mem_of_getElem? (i := 66) (by decide +kernel), List.mem_of_getElem? (i := 362) (by decide +kernel), List.mem_of_getElem? (i := 363) (by decide +kernel)⟩
theorem lw_p4 : lw_okq (⟨"Timesheets$Timeline", "addEvents", "(LTimesheets$Table;II)V"⟩, 4) := ⟨⟨by decide +kernel, by decide +kernel⟩, List.mem_of_getElem? (i := 60) (by decide +kernel), List.mem_of_getElem? (i := 370) (by decide +kernel), List.mem_of_getElem? (i := 371) (by decide +kernel)⟩
theorem lw_p5 : lw_okq (⟨"Timesheets$Timeline", "addEvent", "(III)V"⟩, 4) := ⟨⟨by decide +kernel, by decide +kernel⟩, List.mem_of_getElem? (i := 60) (by decide +kernel), List.mem_of_getElem? (i := 376) (by decide +kernel), List.mem_of_getElem? (i := 377) (by decide +kernel)⟩
theorem lw_p6 : lw_okq (⟨"Timesheets$Timeline", "goThroughEvents", "()V"⟩, 4) := ⟨⟨by decide +kernel, by decide +kernel⟩, List.mem_of_getElem? (i := 60) (by decide +kernel), List.mem_of_getElem? (i := 382) (by decide +kernel), List.mem_of_getElem? (i := 383) (by decide +kernel)⟩
theorem lw_p7 : lw_okq (⟨"Timesheets$Timeline", "addWorked", "(II)V"⟩, 4) := ⟨⟨by decide +kernel, by decide +kernel⟩, List.mem_of_getElem? (i := 60) (by decide +kernel), List.mem_of_getElem? (i := 386) (by decide +kernel), List.mem_of_getElem? (i := 387) (by decide +kernel)⟩
theorem lw_p8 : lw_okq (⟨"Timesheets$Payroll", "takeOffAutomaticBreaks", "(LTimesheets$Table;)V"⟩, 3) := ⟨⟨by decide +kernel, by decide +kernel⟩, List.mem_of_getElem? (i := 54) (by decide +kernel), List.mem_of_getElem? (i := 391) (by decide +kernel), List.mem_of_getElem? (i := 392) (by decide +kernel)⟩
theorem lw_p9 : lw_okq (⟨"Timesheets$Payroll", "isFull", "()Z"⟩, 3) := ⟨⟨by decide +kernel, by decide +kernel⟩, List.mem_of_getElem? (i := 54) (by decide +kernel), List.mem_of_getElem? (i := 400) (by decide +kernel), List.mem_of_getElem? (i := 401) (by decide +kernel)⟩
theorem lw_p10 : lw_okq (⟨"Timesheets$Payroll", "addPartsOfDay", "(IIZ)V"⟩, 3) := ⟨⟨by decide +kernel, by decide +kernel⟩, List.mem_of_getElem? (i := 54) (by decide +kernel), List.mem_of_getElem? (i := 410) (by decide +kernel), List.mem_of_getElem? (i := 411) (by decide +kernel)⟩
theorem lw_p11 : lw_okq (⟨"Timesheets$Payroll", "addParts", "(IIIIZ)V"⟩, 3) := ⟨⟨by decide +kernel, by decide +kernel⟩, List.mem_of_getElem? (i := 54) (by decide +kernel), List.mem_of_getElem? (i := 415) (by decide +kernel), List.mem_of_getElem? (i := 416) (by decide +kernel)⟩
theorem lw_p12 : lw_okq (⟨"Timesheets$Payroll", "quartersOfWeek", "(I)I"⟩, 3) := ⟨⟨by decide +kernel, by decide +kernel⟩, List.mem_of_getElem? (i := 54) (by decide +kernel), List.mem_of_getElem? (i := 430) (by decide +kernel), List.mem_of_getElem? (i := 431) (by decide +kernel)⟩
theorem lw_p13 : lw_okq (⟨"Timesheets$Premiums", "sumOver", "(II)I"⟩, 1) := ⟨⟨by decide +kernel, by decide +kernel⟩, List.mem_of_getElem? (i := 26) (by decide +kernel), List.mem_of_getElem? (i := 443) (by decide +kernel), List.mem_of_getElem? (i := 444) (by decide +kernel)⟩
theorem lw_p14 : lw_okq (⟨"Timesheets$Premiums", "nextChange", "(I)I"⟩, 1) := ⟨⟨by decide +kernel, by decide +kernel⟩, List.mem_of_getElem? (i := 26) (by decide +kernel), List.mem_of_getElem? (i := 447) (by decide +kernel), List.mem_of_getElem? (i := 448) (by decide +kernel)⟩
theorem lw_p15 : lw_okq (⟨"Timesheets$Premiums", "greatestRate", "(II)I"⟩, 1) := ⟨⟨by decide +kernel, by decide +kernel⟩, List.mem_of_getElem? (i := 26) (by decide +kernel), List.mem_of_getElem? (i := 452) (by decide +kernel), List.mem_of_getElem? (i := 453) (by decide +kernel)⟩
def lw_privs_1 : List (MethodName × Nat) := [(⟨"java/lang/Throwable", "fillInStackTrace", "(I)Ljava/lang/Throwable;"⟩, 6), (⟨"Timesheets", "find", "(I)LTimesheets$Employee;"⟩, 6), (⟨"Timesheets$Shifts", "addFromIn", "(LTimesheets$Table;I)V"⟩, 2), (⟨"Timesheets$Shifts", "addFromLoneOut", "(LTimesheets$Table;I)V"⟩, 2), (⟨"Timesheets$Timeline", "addEvents", "(LTimesheets$Table;II)V"⟩, 4), (⟨"Timesheets$Timeline", "addEvent", "(III)V"⟩, 4), (⟨"Timesheets$Timeline", "goThroughEvents", "()V"⟩, 4), (⟨"Timesheets$Timeline", "addWorked", "(II)V"⟩, 4), (⟨"Timesheets$Payroll", "takeOffAutomaticBreaks", "(LTimesheets$Table;)V"⟩, 3), (⟨"Timesheets$Payroll", "isFull", "()Z"⟩, 3), (⟨"Timesheets$Payroll", "addPartsOfDay", "(IIZ)V"⟩, 3), (⟨"Timesheets$Payroll", "addParts", "(IIIIZ)V"⟩, 3), (⟨"Timesheets$Payroll", "quartersOfWeek", "(I)I"⟩, 3), (⟨"Timesheets$Premiums", "sumOver", "(II)I"⟩, 1), (⟨"Timesheets$Premiums", "nextChange", "(I)I"⟩, 1), (⟨"Timesheets$Premiums", "greatestRate", "(II)I"⟩, 1)]
theorem lw_r1 : ∀ q ∈ lw_privs_1, lw_okq q := List.forall_mem_cons.mpr ⟨lw_p0, List.forall_mem_cons.mpr ⟨lw_p1, List.forall_mem_cons.mpr ⟨lw_p2, List.forall_mem_cons.mpr ⟨lw_p3, List.forall_mem_cons.mpr ⟨lw_p4, List.forall_mem_cons.mpr ⟨lw_p5, List.forall_mem_cons.mpr ⟨lw_p6, List.forall_mem_cons.mpr ⟨lw_p7, List.forall_mem_cons.mpr ⟨lw_p8, List.forall_mem_cons.mpr ⟨lw_p9, List.forall_mem_cons.mpr ⟨lw_p10, List.forall_mem_cons.mpr ⟨lw_p11, List.forall_mem_cons.mpr ⟨lw_p12, List.forall_mem_cons.mpr ⟨lw_p13, List.forall_mem_cons.mpr ⟨lw_p14, List.forall_mem_cons.mpr ⟨lw_p15, fun _ h => absurd h List.not_mem_nil⟩⟩⟩⟩⟩⟩⟩⟩⟩⟩⟩⟩⟩⟩⟩⟩
def lw_privs : List (MethodName × Nat) := lw_privs_1
def lw_tbl : List Cond := k2_sels lw_privs ++ tables_1
theorem lw_privs_ok : ∀ q ∈ lw_privs, lw_okq q := lw_r1
end
section
/-! ===== BEGIN words of one list among another's, by their places ===== -/
theorem goodIn_r {big : List Cond} (ws : List Cond) (ps : List Nat) (hp : ws = ps.filterMap (fun i => big[i]?)) (h : ws.all goodWord = true) : GoodIn big ws := by
  intro w hw
  have h1 := List.all_eq_true.mp h w hw
  rw [hp] at hw
  obtain ⟨i, -, hi⟩ := List.mem_filterMap.mp hw
  have hm : w ∈ big := by first | exact List.mem_of_getElem? hi | exact List.getElem?_mem hi
  exact ⟨hm, good_of_word h1⟩
theorem goodIn_app {big a b : List Cond} (ha : GoodIn big a) (hb : GoodIn big b) : GoodIn big (a ++ b) := fun w h => (List.mem_append.mp h).elim (ha w) (hb w)
theorem goodIn_ca {big a b : List Cond} {c : Cond} (ha : GoodIn big (c :: a)) (hb : GoodIn big b) : GoodIn big (c :: (a ++ b)) := fun w h => (List.mem_cons.mp h).elim (fun e => ha w (List.mem_cons.mpr (Or.inl e))) (fun h => (List.mem_append.mp h).elim (fun h => ha w (List.mem_cons.mpr (Or.inr h))) (hb w))
theorem goodIn_sub {big ws : List Cond} (hm : ∀ w ∈ ws, w ∈ big) (h : ws.all goodWord = true) : GoodIn big ws := fun w hw => ⟨hm w hw, good_of_word (List.all_eq_true.mp h w hw)⟩
/-! ===== END ===== -/

/-! ===== BEGIN exceptions that leave a method, and their catching by the caller (launches without stack traces) ===== -/
section VXA
/-! The laws vx_back, vx_callV, vx_callS, vx_callSW, vx_throw0, vx_throwS follow proofs of the library, with one case more: JvmDerived/Free/Laws.lean (Back.of_free), Shelf42/LK1.lean (callV, callS), Shelf/KitTraced.lean (throwNew0V, throwNewS). -/
/-- where a method has thrown q: the class by its name, the cell, what was written, the world -/
def vx_T (XC : String → State → State → Prop) (st : State) (q : Addr) (t : State) (mc ms : Nat) (free : Addr → Prop) : Prop :=
  ∃ (E : String) (ce : Cell) (L : List Loc), XC E st t ∧ t.heap[q]? = some ce ∧ ce.vm = .none ∧ st.vm.findClass E = some ce.cls ∧ st.WarmedH t.vm ∧ st.sameButNew ({ t with vm := st.vm } : State) L mc ms ∧ ∀ z ∈ L, free z.base
def vx_Q (Qc : Array Value → State → Outcome → State → Prop) (XC : String → State → State → Prop) (mc ms : Nat) (free : Addr → Prop) : Array Value → State → Outcome → State → Prop := fun a st o t =>
  (Qc a st o t ∧ ∃ L, FrameEnd st o t L mc ms ∧ ∀ q ∈ L, free q.base) ∨ ∃ q, o = .threw q ∧ vx_T XC st q t mc ms free
/-- a callee that returns or throws -/
def vx_Met (l : Launch) (y : MethodName) (ws : List Cond) (rm : Room) (Pc : Array Value → State → Prop) (Qc : Array Value → State → Outcome → State → Prop) (XC : String → State → State → Prop) (mc ms : Nat) (free : Addr → Prop) : Prop :=
  MetFree l y (headSpec ws rm) Pc (fun _ _ _ _ _ => True) (vx_Q Qc XC mc ms free)
def vx_Post (XC : String → State → State → Prop) (mc ms : Nat) (free : Addr → Prop) : Pt → Array Value → Addr → Pt → Prop := fun A a q B =>
  ∃ (g : JFrame) (mk : MethodId) (t : State) (L : List Loc) (E : String) (ce : Cell), B.U.heap = t.heap ∧ B.U.vm = t.vm ∧ XC E (A.U.calling g mk a) t ∧ t.heap[q]? = some ce ∧ ce.vm = .none ∧ A.U.vm.findClass E = some ce.cls ∧ B.locs = A.locs ++ L ∧ (∀ z ∈ L, free z.base) ∧ B.cells = A.cells + mc ∧ B.slots = A.slots + ms
def vx_Back (l : Launch) (R : Room) (p : Program) (e : Env) (below : List Frame) (s : State) (sargs : Array Value) (y : MethodName) (len W9 : Nat)
    (Pre : Pt → Array Value → Prop) (Post : Pt → Array Value → Option Value → Pt → Prop) (PostX : Pt → Array Value → Addr → Pt → Prop) : Prop :=
  ∀ (m : MethodId) (meth : Method) (c : Code) (A : Pt) (g : JFrame) (ig : Instr) (mk : MethodId) (a : Array Value),
    Stand p l e R s m sargs below meth c A.U A.locs A.cells A.slots → g.method = m → g.locals.size = c.maxLocals → decode c.code g.pc = .ok (ig, len) →
    2 * g.monitorRoom + (g.stack.map fun v => v.category).sum ≤ W9 → A.U.methodNamed? y = some mk → Pre A a →
    (∃ (v : Option Value) (B : Pt), Stand p l e R s m sargs below meth c B.U B.locs B.cells B.slots ∧ Post A a v B ∧
      Steps p.tables e below (doInvoke e (A.U.setTop g) [] mk a).1 (B.U.setTop { g with pc := g.pc + len, stack := v.toList ++ g.stack })) ∨
    (∃ (q : Addr) (B : Pt), Stand p l e R s m sargs below meth c B.U B.locs B.cells B.slots ∧ PostX A a q B ∧
      Steps p.tables e below (doInvoke e (A.U.setTop g) [] mk a).1 ((B.U.setTop g).pushFrame (.throwing q)))
section Payer
variable {l : Launch} {R : Room} {p : Program} {e : Env} {below : List Frame} {s : State} {sargs : Array Value} {y : MethodName} {len W9 : Nat}
theorem vx_back {ws : List Cond} {rm : Room} {Pc : Array Value → State → Prop} {Qc : Array Value → State → Outcome → State → Prop} {XC : String → State → State → Prop} {mc ms : Nat} {free : Addr → Prop} {bytes : ByteArray} {maxL : Nat} {ret : Option FieldType}
    (hM : vx_Met l y ws rm Pc Qc XC mc ms free) (hblind : FrameBlind Pc) (hrc : rm.cells = mc) (hrs : rm.slots = ms)
    (hframes : rm.frames + 1 ≤ R.frames) (hlocals : W9 + (maxL + 11) + rm.locals ≤ R.locals)
    (hws : ∀ w ∈ ws, ∀ a' U, s.WarmedH U.vm → w.before a' U = true) (hcode : Cond.code y bytes maxL ret ∈ ws) (hinit : ∀ a' U, s.WarmedH U.vm → (Cond.initialized y.cls).before a' U = true) :
    vx_Back l R p e below s sargs y len W9 (PreOf R mc ms Pc) (PostOf Qc mc ms free) (vx_Post XC mc ms free) := by
  intro m meth c A g ig mk a X hg hsize hdg hW hn hp
  have h1 : (headSpec ws rm).pre.before a A.U = true := atoms_intro fun w hw => hws w hw _ _ X.warmed
  have h2 : (Cond.code y bytes maxL ret).before a A.U = true := hws _ hcode _ _ X.warmed
  have h3 : (Cond.initialized y.cls).before a A.U = true := hinit _ _ X.warmed
  have h4 : A.cells + (headSpec ws rm).room.cells ≤ R.cells := by rw [show (headSpec ws rm).room.cells = mc from hrc]; exact hp.1
  have h5 : A.slots + (headSpec ws rm).room.slots ≤ R.slots := by rw [show (headSpec ws rm).room.slots = ms from hrs]; exact hp.2.1
  have hPc : Pc a (A.U.calling g mk a) := hblind _ _ _ _ hp.2.2
  obtain ⟨U, Ls, c0, s0⟩ := A
  dsimp only [Pt.U, Pt.locs, Pt.cells, Pt.slots] at h1 h2 h3 h4 h5 X hn hPc ⊢
  obtain ⟨methY, cY, hmY, hcY, -, hlY, -, -, -, -⟩ := Cond.code_spec hn h2
  obtain ⟨kY, hkY, -⟩ := className_of_methodNamed hn
  have hinitY : kY.init = .initialized := Cond.initialized_spec (findClass_of_methodNamed hn) hkY h3
  have h : At U g.method c below := by rw [hg]; exact X.here
  have hlocals9 : W9 + (maxL + 11) + (headSpec ws rm).room.locals ≤ R.locals := hlocals
  have happ : (headSpec ws rm).appliesLoose y e.platform (U.calling g mk a) = true :=
    Spec.appliesLoose_calling (g := g) h hdg hn hkY hinitY
      (X.room_calling (g := g) (R' := (headSpec ws rm).room) hsize hmY hcY hframes (by rw [hlY]; omega) h4 h5) h1
  obtain ⟨mid, hmid⟩ := h.above
  have hfr : (U.setTop g).frames = (.java g :: mid) ++ below := by rw [State.frames_setTop' g h.top, hmid]; rfl
  obtain ⟨o, s₂, hsteps, -, hend, hq⟩ := Steps.callFree hM p X.admits X.cas X.clock (acts := []) hfr happ hPc trivial
  have hq' : vx_Q Qc XC mc ms free a (U.calling g mk a) o s₂ := hq
  rw [State.frames_setTop' g h.top] at hend
  obtain ⟨g₀, hg0⟩ := Option.isSome_iff_exists.mp h.top
  obtain ⟨r, hr⟩ := State.topJava?_eq_some.mp hg0
  have hr' : (({ U with heap := s₂.heap, slotsUsed := s₂.slotsUsed } : State).setVm s₂.vm).frames = .java g₀ :: r := hr
  rcases hq' with ⟨hqc, L, hfe, hL⟩ | ⟨q, rfl, E, ce, L, hx, hce, hcv, hcl, hW₂, hsm, hL⟩
  · obtain ⟨⟨v, rfl⟩, hW₂, e2, q2, q3, q4, q5, q6⟩ := id hfe
    have e3 : s₂ = ({ (U.calling g mk a).setFrames s₂.frames with heap := s₂.heap, slotsUsed := s₂.slotsUsed } : State).setVm s₂.vm := by
      have : s₂ = ({ s₂ with vm := (U.calling g mk a).vm } : State).setVm s₂.vm := rfl
      rw [e2] at this
      exact this
    obtain ⟨c₂, i₂, len₂, hc₂, hd₂, hf₂⟩ := hend
    have hW' : U.WarmedH s₂.vm := hW₂
    have hcc : c₂ = c := by
      have h1 : s₂.code? g.method = U.code? g.method := by
        rw [State.code?_eq, State.code?_eq, hW'.alike.method?]
      exact Option.some.inj (hc₂.symm.trans (h1.trans h.code))
    subst hcc
    have hlen : len₂ = len := by rw [hdg] at hd₂; cases hd₂; rfl
    subst hlen
    have hs₂ : s₂ = (({ U with heap := s₂.heap, slotsUsed := s₂.slotsUsed } : State).setVm s₂.vm).setTop { g with pc := g.pc + len₂, stack := v.toList ++ g.stack } := by
      refine e3.trans ?_
      rw [hf₂, State.calling_eq h.top, State.setFrames_setFrames, State.setTop_of_frames _ hr', hr]
      rfl
    have hsame : U.sameButNew ({ U with heap := s₂.heap, slotsUsed := s₂.slotsUsed } : State) L mc ms := by
      refine ⟨?_, q2, q3, q4, q5, q6⟩
      obtain ⟨t, ht, -⟩ := State.frames_cons hr
      show ({ U with heap := s₂.heap, slotsUsed := s₂.slotsUsed } : State) = { U.setFrames U.frames with heap := s₂.heap, slotsUsed := s₂.slotsUsed }
      rw [State.setFrames_self ht]
    subst hg
    refine Or.inl ⟨v, ⟨(({ U with heap := s₂.heap, slotsUsed := s₂.slotsUsed } : State).setVm s₂.vm), Ls ++ L, c0 + mc, s0 + ms⟩,
      ⟨X.admits, X.cas, X.clock, X.frames, X.room, X.hears, X.method, X.code, (X.here.setHeapUsed s₂.heap s₂.slotsUsed).setVm hW'.alike, X.tail, State.WarmedH.trans X.warmed hW', X.limits, X.bytes, X.same.trans (hsame.setVm s.vm)⟩,
      ⟨g, mk, s₂, L, rfl, rfl, hqc, rfl, hL, rfl, rfl⟩, ?_⟩
    show Steps p.tables e below _ ((({ U with heap := s₂.heap, slotsUsed := s₂.slotsUsed } : State).setVm s₂.vm).setTop { g with pc := g.pc + len₂, stack := v.toList ++ g.stack })
    rw [← hs₂]
    exact hsteps
  · obtain ⟨e2, q2, q3, q4, q5, q6⟩ := id hsm
    have e3 : s₂ = ({ (U.calling g mk a).setFrames s₂.frames with heap := s₂.heap, slotsUsed := s₂.slotsUsed } : State).setVm s₂.vm := by
      have : s₂ = ({ s₂ with vm := (U.calling g mk a).vm } : State).setVm s₂.vm := rfl
      rw [e2] at this
      exact this
    have hf₂ : s₂.frames = .throwing q :: .java g :: U.frames.tail := hend
    have hW' : U.WarmedH s₂.vm := hW₂
    have hs₂ : s₂ = ((({ U with heap := s₂.heap, slotsUsed := s₂.slotsUsed } : State).setVm s₂.vm).setTop g).pushFrame (.throwing q) := by
      refine e3.trans ?_
      rw [hf₂, State.calling_eq h.top, State.setFrames_setFrames, State.pushFrame, State.frames_setTop _ hr', State.setTop_of_frames _ hr', State.setFrames_setFrames, hr]
      rfl
    have hsame : U.sameButNew ({ U with heap := s₂.heap, slotsUsed := s₂.slotsUsed } : State) L mc ms := by
      refine ⟨?_, q2, q3, q4, q5, q6⟩
      obtain ⟨t, ht, -⟩ := State.frames_cons hr
      show ({ U with heap := s₂.heap, slotsUsed := s₂.slotsUsed } : State) = { U.setFrames U.frames with heap := s₂.heap, slotsUsed := s₂.slotsUsed }
      rw [State.setFrames_self ht]
    subst hg
    refine Or.inr ⟨q, ⟨(({ U with heap := s₂.heap, slotsUsed := s₂.slotsUsed } : State).setVm s₂.vm), Ls ++ L, c0 + mc, s0 + ms⟩,
      ⟨X.admits, X.cas, X.clock, X.frames, X.room, X.hears, X.method, X.code, (X.here.setHeapUsed s₂.heap s₂.slotsUsed).setVm hW'.alike, X.tail, State.WarmedH.trans X.warmed hW', X.limits, X.bytes, X.same.trans (hsame.setVm s.vm)⟩,
      ⟨g, mk, s₂, L, E, ce, rfl, rfl, hx, hce, hcv, hcl, rfl, hL, rfl, rfl⟩, ?_⟩
    show Steps p.tables e below _ (((({ U with heap := s₂.heap, slotsUsed := s₂.slotsUsed } : State).setVm s₂.vm).setTop g).pushFrame (.throwing q))
    rw [← hs₂]
    exact hsteps
end Payer
section Calls
variable {p : Program} {l : Launch} {e : Env} {R : Room} {s : State} {m : MethodId} {args : Array Value} {below : List Frame} {meth : Method} {c : Code} {T : State} {locs : List Loc} {cells slots : Nat}
theorem vx_callV (X : Stand p l e R s m args below meth c T locs cells slots) (hexec : p.tables.exec = Jvm.exec) {own C : String} {index : Nat} {y : MethodName} {bytes : ByteArray} {maxL : Nat} {ret : Option FieldType}
    (hown : s.vm.findClass own = some m.cls) (hlink : (Cond.methodLink own index y).before args s = true) (hinst : (Cond.instanceMethod y).before args s = true) (hsel : (Cond.selects C y y).before args s = true)
    (hcode : (Cond.code y bytes maxL ret).before args s = true) (hy : y.cls ≠ "java/lang/invoke/MethodHandle" ∧ y.cls ≠ "java/lang/invoke/VarHandle")
    {W9 : Nat} {Pre : Pt → Array Value → Prop} {Post : Pt → Array Value → Option Value → Pt → Prop} {PostX : Pt → Array Value → Addr → Pt → Prop} (hK : vx_Back l R p e below s args y 3 W9 Pre Post PostX)
    {b : Addr} {cellB : Cell} (hcell : T.heap[b]? = some cellB) (hobj : cellB.vm.isStatics = false) (hcls : s.vm.findClass C = some cellB.cls)
    {g : JFrame} (hg : g.method = m) (hsize : g.locals.size = c.maxLocals) {argsL rest : List Value} (hlen : ∀ sig, parseMethodDescriptor y.desc = some sig → argsL.length = sig.parameters.length)
    (hstack : g.stack = argsL.reverse ++ .ref b :: rest) (hW : 2 * g.monitorRoom + (rest.map fun v => v.category).sum ≤ W9) (hdg : decode c.code g.pc = .ok (.invokevirtual index, 3))
    (hpre : ∀ vm₁, s.WarmedH vm₁ → Pre ⟨T.setVm vm₁, locs, cells, slots⟩ (Value.ref b :: argsL).toArray) :
    (∃ (v : Option Value) (vm₁ : Vm) (B : Pt), s.WarmedH vm₁ ∧ Stand p l e R s m args below meth c B.U B.locs B.cells B.slots ∧ Post ⟨T.setVm vm₁, locs, cells, slots⟩ (Value.ref b :: argsL).toArray v B ∧
      ∀ target, Steps p.tables e below (B.U.setTop { g with pc := g.pc + 3, stack := v.toList ++ rest }) target → Steps p.tables e below (T.setTop g) target) ∨
    (∃ (q : Addr) (vm₁ : Vm) (B : Pt), s.WarmedH vm₁ ∧ Stand p l e R s m args below meth c B.U B.locs B.cells B.slots ∧ PostX ⟨T.setVm vm₁, locs, cells, slots⟩ (Value.ref b :: argsL).toArray q B ∧
      Steps p.tables e below (T.setTop g) ((B.U.setTop { g with stack := rest }).pushFrame (.throwing q))) := by
  obtain ⟨mk, methM, hnamed, hmethM, hstM, habM⟩ := Cond.instanceMethod_spec hinst
  obtain ⟨methM', cM, hmethM', -, -, -, -, -, -, hsigM⟩ := Cond.code_spec hnamed hcode
  cases hmethM.symm.trans hmethM'
  obtain ⟨c2, r2, m2, q1, q2, q3, q4, kP, hkP, hkPi⟩ := Cond.selects_spec hsel
  cases hcls.symm.trans q1
  cases (State.methodFound?_of_named hnamed hy).symm.trans q2
  cases hnamed.symm.trans q3
  have hselP : selectMethod e.platform s.vm cellB.cls mk = .method mk := by rw [Launch.admits_selectMethod X.admits]; exact q4
  obtain ⟨vm₁, X₁, hstep₁⟩ := X.invokevirtual hexec hown hlink hnamed hmethM hstM hkP hkPi hy (a := b) (cell := cellB) hcell
    (fun z h => by rw [h] at hobj; cases hobj) hselP hmethM habM hkP hkPi (g := g) hg (argsL := argsL) (rest := rest) (hlen _ hsigM) hstack hdg
  rcases hK m meth c ⟨T.setVm vm₁, locs, cells, slots⟩ { g with stack := rest } (.invokevirtual index) mk (Value.ref b :: argsL).toArray X₁ hg hsize hdg hW (X₁.named hnamed) (hpre vm₁ X₁.warmed) with ⟨v, B, X', hpost, hsteps⟩ | ⟨q, B, X', hpost, hsteps⟩
  · exact Or.inl ⟨v, vm₁, B, X₁.warmed, X', hpost, fun target h => hstep₁ _ fun acts => by rw [doInvoke_state]; exact hsteps.trans h⟩
  · exact Or.inr ⟨q, vm₁, B, X₁.warmed, X', hpost, hstep₁ _ fun acts => by rw [doInvoke_state]; exact hsteps⟩
theorem vx_callS (X : Stand p l e R s m args below meth c T locs cells slots) (hexec : p.tables.exec = Jvm.exec) {own : String} {index : Nat} {y : MethodName} {bytes : ByteArray} {maxL : Nat} {ret : Option FieldType}
    (hown : s.vm.findClass own = some m.cls) (hlink : (Cond.methodLink own index y).before args s = true) (hstat : (Cond.static y).before args s = true) (hinit : (Cond.initialized y.cls).before args s = true)
    (hcode : (Cond.code y bytes maxL ret).before args s = true) (hy : y.cls ≠ "java/lang/invoke/MethodHandle" ∧ y.cls ≠ "java/lang/invoke/VarHandle")
    {W9 : Nat} {Pre : Pt → Array Value → Prop} {Post : Pt → Array Value → Option Value → Pt → Prop} {PostX : Pt → Array Value → Addr → Pt → Prop} (hK : vx_Back l R p e below s args y 3 W9 Pre Post PostX)
    {g : JFrame} (hg : g.method = m) (hsize : g.locals.size = c.maxLocals) {argsL rest : List Value} (hlen : ∀ sig, parseMethodDescriptor y.desc = some sig → argsL.length = sig.parameters.length)
    (hstack : g.stack = argsL.reverse ++ rest) (hW : 2 * g.monitorRoom + (rest.map fun v => v.category).sum ≤ W9) (hdg : decode c.code g.pc = .ok (.invokestatic index, 3))
    (hpre : ∀ vm₁, s.WarmedH vm₁ → Pre ⟨T.setVm vm₁, locs, cells, slots⟩ argsL.toArray) :
    (∃ (v : Option Value) (vm₁ : Vm) (B : Pt), s.WarmedH vm₁ ∧ Stand p l e R s m args below meth c B.U B.locs B.cells B.slots ∧ Post ⟨T.setVm vm₁, locs, cells, slots⟩ argsL.toArray v B ∧
      ∀ target, Steps p.tables e below (B.U.setTop { g with pc := g.pc + 3, stack := v.toList ++ rest }) target → Steps p.tables e below (T.setTop g) target) ∨
    (∃ (q : Addr) (vm₁ : Vm) (B : Pt), s.WarmedH vm₁ ∧ Stand p l e R s m args below meth c B.U B.locs B.cells B.slots ∧ PostX ⟨T.setVm vm₁, locs, cells, slots⟩ argsL.toArray q B ∧
      Steps p.tables e below (T.setTop g) ((B.U.setTop { g with stack := rest }).pushFrame (.throwing q))) := by
  obtain ⟨mk, hnamed⟩ := Cond.code_named hcode
  obtain ⟨methM, cM, hmethM, -, -, -, -, -, -, hsigM⟩ := Cond.code_spec hnamed hcode
  have hstatic : methM.isStatic = true := Cond.static_spec hnamed hmethM hstat
  obtain ⟨kP, hkP, -⟩ := className_of_methodNamed hnamed
  have hinitP : kP.init = .initialized := Cond.initialized_spec (findClass_of_methodNamed hnamed) hkP hinit
  obtain ⟨vm₁, X₁, hstep₁⟩ := X.invokestatic hexec hown hlink hnamed hmethM hstatic hkP hinitP hy (g := g) hg (argsL := argsL) (rest := rest) (hlen _ hsigM) hstack hdg
  rcases hK m meth c ⟨T.setVm vm₁, locs, cells, slots⟩ { g with stack := rest } (.invokestatic index) mk argsL.toArray X₁ hg hsize hdg hW (X₁.named hnamed) (hpre vm₁ X₁.warmed) with ⟨v, B, X', hpost, hsteps⟩ | ⟨q, B, X', hpost, hsteps⟩
  · exact Or.inl ⟨v, vm₁, B, X₁.warmed, X', hpost, fun target h => hstep₁ _ fun acts => by rw [doInvoke_state]; exact hsteps.trans h⟩
  · exact Or.inr ⟨q, vm₁, B, X₁.warmed, X', hpost, hstep₁ _ fun acts => by rw [doInvoke_state]; exact hsteps⟩
end Calls
theorem vx_cls {s : State} {T : State} {vm₁ : Vm} {E : String} {k : ClassId} (hW : s.WarmedH vm₁) (h : (T.setVm vm₁).vm.findClass E = some k) : s.vm.findClass E = some k := by
  have h1 : vm₁.findClass E = some k := h
  rw [hW.alike.findClass] at h1
  exact h1
/-- the method's frame g, with q thrown over it -/
def vx_W (p : Program) (l : Launch) (e : Env) (R : Room) (s : State) (m : MethodId) (args : Array Value) (below : List Frame) (meth : Method) (c : Code) (H : Heap) (locs : List Loc) (cells slots : Nat) (Q : State → Prop) (g : JFrame) (q : Addr) : Prop :=
  ∀ T : State, T.heap = H → Stand p l e R s m args below meth c T locs cells slots → ∃ t, Steps p.tables e below ((T.setTop g).pushFrame (.throwing q)) t ∧ Q t
def vx_Run (p : Program) (l : Launch) (e : Env) (R : Room) (s : State) (m : MethodId) (args : Array Value) (below : List Frame) (meth : Method) (c : Code) (H : Heap) (locs : List Loc) (cells slots mc ms : Nat) (g : JFrame) (rest : List Value) (Qa : State → Outcome → State → Prop) (XC : String → State → State → Prop) (free : Addr → Prop) : Prop :=
  ∀ T : State, T.heap = H → Stand p l e R s m args below meth c T locs cells slots →
    (∃ (v : Option Value) (st₀ t T' : State) (L : List Loc), st₀.heap = H ∧ Stand p l e R s m args below meth c T' (locs ++ L) (cells + mc) (slots + ms) ∧ (∀ q ∈ L, free q.base) ∧ T'.heap = t.heap ∧ T'.vm = t.vm ∧ Qa st₀ (.returned v) t ∧
      Goes p e below T g T' { g with pc := g.pc + 3, stack := v.toList ++ rest }) ∨
    (∃ (q : Addr) (st₀ t T' : State) (L : List Loc) (E : String) (ce : Cell), st₀.heap = H ∧ Stand p l e R s m args below meth c T' (locs ++ L) (cells + mc) (slots + ms) ∧ (∀ z ∈ L, free z.base) ∧ T'.heap = t.heap ∧ T'.vm = t.vm ∧ XC E st₀ t ∧ t.heap[q]? = some ce ∧ ce.vm = .none ∧ s.vm.findClass E = some ce.cls ∧
      Steps p.tables e below (T.setTop g) ((T'.setTop { g with stack := rest }).pushFrame (.throwing q)))
def vx_X {S : Type} (px : S → Prop) (B : String → S → State → Prop) (A : Nat → Prop) : String → State → State → Prop := fun E st t => ∃ u : S, px u ∧ B E u t ∧ va_F A st t
section Runs
variable {p : Program} {l : Launch} {e : Env} {R : Room} {s : State} {m : MethodId} {args : Array Value} {below : List Frame} {meth : Method} {c : Code} {H : Heap} {locs : List Loc} {cells slots : Nat}
variable {y : MethodName} {bytes cc : ByteArray} {maxL nL mc ms n index : Nat} {ret : Option FieldType} {ws : List Cond} {rm : Room} {Pc : Array Value → State → Prop} {Qc : Array Value → State → Outcome → State → Prop} {XC : String → State → State → Prop} {free : Addr → Prop} {Ts : List Cond} {own C : String} {b : Addr} {As rest : List Value} {g : JFrame}
theorem vx_callBack (cb : CallB R s args own index y bytes maxL ret ws rm mc ms n) (hM : vx_Met l y ws rm Pc Qc XC mc ms free) (hbl : FrameBlind Pc) : vx_Back l R p e below s args y 3 8 (PreOf R mc ms Pc) (PostOf Qc mc ms free) (vx_Post XC mc ms free) := by
  obtain ⟨hrc, hrs, hfr, hlo, hws, hcw, -, hini, -⟩ := cb
  exact vx_back (bytes := bytes) (maxL := maxL) (ret := ret) hM hbl hrc hrs hfr hlo hws hcw (fun a' U hW => word_at hW (Or.inl (by first | rfl | simp [Cond.onTables, Cond.keeps, Cond.steady])) hini)
theorem vx_runV (S : CallFix p m c cc nL s args Ts own) (hM : vx_Met l y ws rm Pc Qc XC mc ms free) (cw : CallW R s args own C index y bytes maxL ret ws rm mc ms n) (hp : PreV s H C b Pc As)
    (hg : g.method = m) (hn : As.length = n) (hsize : g.locals.size = nL) (hstack : g.stack = As.reverse ++ .ref b :: rest) (hW : 2 * g.monitorRoom + (rest.map fun v => v.category).sum ≤ 8) (hdg : decode cc g.pc = .ok (.invokevirtual index, 3)) (hf : cells + mc ≤ R.cells ∧ slots + ms ≤ R.slots) :
    vx_Run p l e R s m args below meth c H locs cells slots mc ms g rest (Qc (Value.ref b :: As).toArray) XC free := by
  have hK : vx_Back l R p e below s args y 3 8 (PreOf R mc ms Pc) (PostOf Qc mc ms free) (vx_Post XC mc ms free) := vx_callBack cw.1 hM hp.1
  obtain ⟨⟨-, -, -, -, -, -, hcode, -, hy, hlen, hl⟩, hin, hse⟩ := cw
  obtain ⟨hx, hb, hml, ho, -⟩ := S
  obtain ⟨-, ⟨cellB, hcB, hoB, hclB⟩, hPc⟩ := hp
  intro T hT X
  rcases vx_callV X hx (C := C) (bytes := bytes) (maxL := maxL) (ret := ret) ho hl hin hse hcode hy hK (by rw [hT]; exact hcB) hoB hclB hg (hsize.trans hml.symm) (argsL := As) (rest := rest) (fun sig h => hn.trans (hlen sig h)) hstack hW (by rw [hb]; exact hdg)
    (fun vm₁ hW₁ => ⟨hf.1, hf.2, hPc (T.setVm vm₁) hT hW₁⟩) with ⟨v, vm₁, ⟨U', l2, c2, s2⟩, hW₁, X', ⟨g', mk, t, L, e1, e2, hq, h1, hL, h2, h3⟩, st⟩ | ⟨q, vm₁, ⟨U', l2, c2, s2⟩, hW₁, X', ⟨g', mk, t, L, E, ce, e1, e2, hq, hce, hcv, hcl, h1, hL, h2, h3⟩, st⟩
  · dsimp only [Pt.U, Pt.locs, Pt.cells, Pt.slots] at X' e1 e2 h1 h2 h3 st
    subst h1; subst h2; subst h3
    exact Or.inl ⟨v, (T.setVm vm₁).calling g' mk (Value.ref b :: As).toArray, t, U', L, hT, X', hL, e1, e2, hq, st⟩
  · dsimp only [Pt.U, Pt.locs, Pt.cells, Pt.slots] at X' e1 e2 h1 h2 h3 st hcl
    subst h1; subst h2; subst h3
    exact Or.inr ⟨q, (T.setVm vm₁).calling g' mk (Value.ref b :: As).toArray, t, U', L, E, ce, hT, X', hL, e1, e2, hq, hce, hcv, vx_cls hW₁ hcl, st⟩
theorem vx_runS (S : CallFix p m c cc nL s args Ts own) (hM : vx_Met l y ws rm Pc Qc XC mc ms free) (cw : CallB R s args own index y bytes maxL ret ws rm mc ms n ∧ (Cond.static y).before args s = true) (hp : PreS s H Pc As)
    (hg : g.method = m) (hn : As.length = n) (hsize : g.locals.size = nL) (hstack : g.stack = As.reverse ++ rest) (hW : 2 * g.monitorRoom + (rest.map fun v => v.category).sum ≤ 8) (hdg : decode cc g.pc = .ok (.invokestatic index, 3)) (hf : cells + mc ≤ R.cells ∧ slots + ms ≤ R.slots) :
    vx_Run p l e R s m args below meth c H locs cells slots mc ms g rest (Qc As.toArray) XC free := by
  have hK : vx_Back l R p e below s args y 3 8 (PreOf R mc ms Pc) (PostOf Qc mc ms free) (vx_Post XC mc ms free) := vx_callBack cw.1 hM hp.1
  obtain ⟨⟨-, -, -, -, -, -, hcode, hini, hy, hlen, hl⟩, hstt⟩ := cw
  obtain ⟨hx, hb, hml, ho, -⟩ := S
  intro T hT X
  rcases vx_callS X hx (bytes := bytes) (maxL := maxL) (ret := ret) ho hl hstt hini hcode hy hK hg (hsize.trans hml.symm) (argsL := As) (rest := rest) (fun sig h => hn.trans (hlen sig h)) hstack hW (by rw [hb]; exact hdg)
    (fun vm₁ hW₁ => ⟨hf.1, hf.2, hp.2 (T.setVm vm₁) hT hW₁⟩) with ⟨v, vm₁, ⟨U', l2, c2, s2⟩, hW₁, X', ⟨g', mk, t, L, e1, e2, hq, h1, hL, h2, h3⟩, st⟩ | ⟨q, vm₁, ⟨U', l2, c2, s2⟩, hW₁, X', ⟨g', mk, t, L, E, ce, e1, e2, hq, hce, hcv, hcl, h1, hL, h2, h3⟩, st⟩
  · dsimp only [Pt.U, Pt.locs, Pt.cells, Pt.slots] at X' e1 e2 h1 h2 h3 st
    subst h1; subst h2; subst h3
    exact Or.inl ⟨v, (T.setVm vm₁).calling g' mk As.toArray, t, U', L, hT, X', hL, e1, e2, hq, st⟩
  · dsimp only [Pt.U, Pt.locs, Pt.cells, Pt.slots] at X' e1 e2 h1 h2 h3 st hcl
    subst h1; subst h2; subst h3
    exact Or.inr ⟨q, (T.setVm vm₁).calling g' mk As.toArray, t, U', L, E, ce, hT, X', hL, e1, e2, hq, hce, hcv, vx_cls hW₁ hcl, st⟩
end Runs
section Rows
variable {p : Program} {l : Launch} {e : Env} {R : Room} {s : State} {m : MethodId} {args : Array Value} {below : List Frame} {meth : Method} {c : Code} {H : Heap} {locs : List Loc} {cells slots : Nat} {Q : State → Prop}
variable {mc ms : Nat} {free : Addr → Prop} {A0 A1 : Nat → Prop} {H0 : Heap} {a : Array Value} {pc : Nat} {ls : Array Slot} {st0 rest : List Value}
theorem vx_keep {st₀ t T' : State} {L : List Loc} (h0 : st₀.heap = H) (e1 : T'.heap = t.heap) (hS : va_S A0 H0 H locs) (hA : ∀ q, q < H.size → A1 q → A0 q) (hf : ∀ q, free q → A0 q) (hL : ∀ q ∈ L, free q.base) (hF : va_F A1 st₀ t) :
    H.size ≤ T'.heap.size ∧ (∀ q : Nat, q < H.size → ¬ A1 q → T'.heap[q]? = H[q]?) ∧ va_S A0 H0 T'.heap (locs ++ L) := by
  obtain ⟨hz, hk⟩ := hF
  rw [h0] at hz hk
  exact ⟨by rw [e1]; exact hz, fun q h1 h2 => by rw [e1]; exact hk q h1 h2,
    ⟨Nat.le_trans hS.1 (by rw [e1]; exact hz), fun q h1 h2 => by rw [e1, hk q (Nat.lt_of_lt_of_le h1 hS.1) (fun z => h2 (hA q (Nat.lt_of_lt_of_le h1 hS.1) z))]; exact hS.2.1 q h1 h2, fun q hq => by
      rcases List.mem_append.mp hq with h | h
      · exact hS.2.2 q h
      · exact hf _ (hL q h)⟩⟩
theorem vx_calli {S SX : Type} {post : Int32 → S → Prop} {px : SX → Prop} {B : S → State → Prop} {BX : String → SX → State → Prop} {AX : Nat → Prop} (hr : vx_Run p l e R s m args below meth c H locs cells slots mc ms (F0 m pc ls st0) rest (va_Qi post B A1 a) (vx_X px BX AX) free) (hS : va_S A0 H0 H locs) (hA : ∀ q, q < H.size → A1 q → A0 q) (hf : ∀ q, free q → A0 q) (hAX : ∀ q, q < H.size → AX q → A0 q)
    (kx : ∀ (E : String) (ce : Cell) (q9 : Addr) (u : SX) (t : State) (H1 : Heap) (locs1 : List Loc), t.heap = H1 → s.vm.Alike t.vm → px u → BX E u t → H.size ≤ H1.size → (∀ q : Nat, q < H.size → ¬ AX q → H1[q]? = H[q]?) → va_S A0 H0 H1 locs1 → H1[q9]? = some ce → ce.vm = .none → s.vm.findClass E = some ce.cls → vx_W p l e R s m args below meth c H1 locs1 (cells + mc) (slots + ms) Q (F0 m pc ls rest) q9)
    (kk : ∀ (r : Int32) (u : S) (t : State) (H1 : Heap) (locs1 : List Loc), t.heap = H1 → s.vm.Alike t.vm → post r u → B u t → H.size ≤ H1.size → (∀ q : Nat, q < H.size → ¬ A1 q → H1[q]? = H[q]?) → va_S A0 H0 H1 locs1 → W p l e R s m args below meth c H1 locs1 (cells + mc) (slots + ms) Q (F0 m (pc + 3) ls (.int r :: rest))) : W p l e R s m args below meth c H locs cells slots Q (F0 m pc ls st0) := by
  intro T hT X
  rcases hr T hT X with ⟨v, st₀, t, T', L, h0, X', hL, e1, e2, ⟨⟨r, u, hv, hp, hb⟩, hF⟩, st⟩ | ⟨q, st₀, t, T', L, E, ce, h0, X', hL, e1, e2, ⟨u, hp, hb, hF⟩, hce, hcv, hcl, st⟩
  · cases hv
    obtain ⟨k1, k2, k3⟩ := vx_keep h0 e1 hS hA hf hL hF
    obtain ⟨t2, a1, b1⟩ := kk r u t T'.heap (locs ++ L) e1.symm (by rw [← e2]; exact X'.warmed.alike) hp hb k1 k2 k3 T' rfl X'
    exact ⟨t2, st t2 a1, b1⟩
  · obtain ⟨k1, k2, k3⟩ := vx_keep h0 e1 hS hAX hf hL hF
    obtain ⟨t2, a1, b1⟩ := kx E ce q u t T'.heap (locs ++ L) e1.symm (by rw [← e2]; exact X'.warmed.alike) hp hb k1 k2 k3 (by rw [e1]; exact hce) hcv hcl T' rfl X'
    exact ⟨t2, st.trans a1, b1⟩
theorem vx_calll {S SX : Type} {post : Int64 → S → Prop} {px : SX → Prop} {B : S → State → Prop} {BX : String → SX → State → Prop} {AX : Nat → Prop} (hr : vx_Run p l e R s m args below meth c H locs cells slots mc ms (F0 m pc ls st0) rest (va_Ql post B A1 a) (vx_X px BX AX) free) (hS : va_S A0 H0 H locs) (hA : ∀ q, q < H.size → A1 q → A0 q) (hf : ∀ q, free q → A0 q) (hAX : ∀ q, q < H.size → AX q → A0 q)
    (kx : ∀ (E : String) (ce : Cell) (q9 : Addr) (u : SX) (t : State) (H1 : Heap) (locs1 : List Loc), t.heap = H1 → s.vm.Alike t.vm → px u → BX E u t → H.size ≤ H1.size → (∀ q : Nat, q < H.size → ¬ AX q → H1[q]? = H[q]?) → va_S A0 H0 H1 locs1 → H1[q9]? = some ce → ce.vm = .none → s.vm.findClass E = some ce.cls → vx_W p l e R s m args below meth c H1 locs1 (cells + mc) (slots + ms) Q (F0 m pc ls rest) q9)
    (kk : ∀ (r : Int64) (u : S) (t : State) (H1 : Heap) (locs1 : List Loc), t.heap = H1 → s.vm.Alike t.vm → post r u → B u t → H.size ≤ H1.size → (∀ q : Nat, q < H.size → ¬ A1 q → H1[q]? = H[q]?) → va_S A0 H0 H1 locs1 → W p l e R s m args below meth c H1 locs1 (cells + mc) (slots + ms) Q (F0 m (pc + 3) ls (.long r :: rest))) : W p l e R s m args below meth c H locs cells slots Q (F0 m pc ls st0) := by
  intro T hT X
  rcases hr T hT X with ⟨v, st₀, t, T', L, h0, X', hL, e1, e2, ⟨⟨r, u, hv, hp, hb⟩, hF⟩, st⟩ | ⟨q, st₀, t, T', L, E, ce, h0, X', hL, e1, e2, ⟨u, hp, hb, hF⟩, hce, hcv, hcl, st⟩
  · cases hv
    obtain ⟨k1, k2, k3⟩ := vx_keep h0 e1 hS hA hf hL hF
    obtain ⟨t2, a1, b1⟩ := kk r u t T'.heap (locs ++ L) e1.symm (by rw [← e2]; exact X'.warmed.alike) hp hb k1 k2 k3 T' rfl X'
    exact ⟨t2, st t2 a1, b1⟩
  · obtain ⟨k1, k2, k3⟩ := vx_keep h0 e1 hS hAX hf hL hF
    obtain ⟨t2, a1, b1⟩ := kx E ce q u t T'.heap (locs ++ L) e1.symm (by rw [← e2]; exact X'.warmed.alike) hp hb k1 k2 k3 (by rw [e1]; exact hce) hcv hcl T' rfl X'
    exact ⟨t2, st.trans a1, b1⟩
theorem vx_callf {S SX : Type} {post : UInt32 → S → Prop} {px : SX → Prop} {B : S → State → Prop} {BX : String → SX → State → Prop} {AX : Nat → Prop} (hr : vx_Run p l e R s m args below meth c H locs cells slots mc ms (F0 m pc ls st0) rest (va_Qf post B A1 a) (vx_X px BX AX) free) (hS : va_S A0 H0 H locs) (hA : ∀ q, q < H.size → A1 q → A0 q) (hf : ∀ q, free q → A0 q) (hAX : ∀ q, q < H.size → AX q → A0 q)
    (kx : ∀ (E : String) (ce : Cell) (q9 : Addr) (u : SX) (t : State) (H1 : Heap) (locs1 : List Loc), t.heap = H1 → s.vm.Alike t.vm → px u → BX E u t → H.size ≤ H1.size → (∀ q : Nat, q < H.size → ¬ AX q → H1[q]? = H[q]?) → va_S A0 H0 H1 locs1 → H1[q9]? = some ce → ce.vm = .none → s.vm.findClass E = some ce.cls → vx_W p l e R s m args below meth c H1 locs1 (cells + mc) (slots + ms) Q (F0 m pc ls rest) q9)
    (kk : ∀ (r : UInt32) (u : S) (t : State) (H1 : Heap) (locs1 : List Loc), t.heap = H1 → s.vm.Alike t.vm → post r u → B u t → H.size ≤ H1.size → (∀ q : Nat, q < H.size → ¬ A1 q → H1[q]? = H[q]?) → va_S A0 H0 H1 locs1 → W p l e R s m args below meth c H1 locs1 (cells + mc) (slots + ms) Q (F0 m (pc + 3) ls (.float r :: rest))) : W p l e R s m args below meth c H locs cells slots Q (F0 m pc ls st0) := by
  intro T hT X
  rcases hr T hT X with ⟨v, st₀, t, T', L, h0, X', hL, e1, e2, ⟨⟨r, u, hv, hp, hb⟩, hF⟩, st⟩ | ⟨q, st₀, t, T', L, E, ce, h0, X', hL, e1, e2, ⟨u, hp, hb, hF⟩, hce, hcv, hcl, st⟩
  · cases hv
    obtain ⟨k1, k2, k3⟩ := vx_keep h0 e1 hS hA hf hL hF
    obtain ⟨t2, a1, b1⟩ := kk r u t T'.heap (locs ++ L) e1.symm (by rw [← e2]; exact X'.warmed.alike) hp hb k1 k2 k3 T' rfl X'
    exact ⟨t2, st t2 a1, b1⟩
  · obtain ⟨k1, k2, k3⟩ := vx_keep h0 e1 hS hAX hf hL hF
    obtain ⟨t2, a1, b1⟩ := kx E ce q u t T'.heap (locs ++ L) e1.symm (by rw [← e2]; exact X'.warmed.alike) hp hb k1 k2 k3 (by rw [e1]; exact hce) hcv hcl T' rfl X'
    exact ⟨t2, st.trans a1, b1⟩
theorem vx_calld {S SX : Type} {post : UInt64 → S → Prop} {px : SX → Prop} {B : S → State → Prop} {BX : String → SX → State → Prop} {AX : Nat → Prop} (hr : vx_Run p l e R s m args below meth c H locs cells slots mc ms (F0 m pc ls st0) rest (va_Qd post B A1 a) (vx_X px BX AX) free) (hS : va_S A0 H0 H locs) (hA : ∀ q, q < H.size → A1 q → A0 q) (hf : ∀ q, free q → A0 q) (hAX : ∀ q, q < H.size → AX q → A0 q)
    (kx : ∀ (E : String) (ce : Cell) (q9 : Addr) (u : SX) (t : State) (H1 : Heap) (locs1 : List Loc), t.heap = H1 → s.vm.Alike t.vm → px u → BX E u t → H.size ≤ H1.size → (∀ q : Nat, q < H.size → ¬ AX q → H1[q]? = H[q]?) → va_S A0 H0 H1 locs1 → H1[q9]? = some ce → ce.vm = .none → s.vm.findClass E = some ce.cls → vx_W p l e R s m args below meth c H1 locs1 (cells + mc) (slots + ms) Q (F0 m pc ls rest) q9)
    (kk : ∀ (r : UInt64) (u : S) (t : State) (H1 : Heap) (locs1 : List Loc), t.heap = H1 → s.vm.Alike t.vm → post r u → B u t → H.size ≤ H1.size → (∀ q : Nat, q < H.size → ¬ A1 q → H1[q]? = H[q]?) → va_S A0 H0 H1 locs1 → W p l e R s m args below meth c H1 locs1 (cells + mc) (slots + ms) Q (F0 m (pc + 3) ls (.double r :: rest))) : W p l e R s m args below meth c H locs cells slots Q (F0 m pc ls st0) := by
  intro T hT X
  rcases hr T hT X with ⟨v, st₀, t, T', L, h0, X', hL, e1, e2, ⟨⟨r, u, hv, hp, hb⟩, hF⟩, st⟩ | ⟨q, st₀, t, T', L, E, ce, h0, X', hL, e1, e2, ⟨u, hp, hb, hF⟩, hce, hcv, hcl, st⟩
  · cases hv
    obtain ⟨k1, k2, k3⟩ := vx_keep h0 e1 hS hA hf hL hF
    obtain ⟨t2, a1, b1⟩ := kk r u t T'.heap (locs ++ L) e1.symm (by rw [← e2]; exact X'.warmed.alike) hp hb k1 k2 k3 T' rfl X'
    exact ⟨t2, st t2 a1, b1⟩
  · obtain ⟨k1, k2, k3⟩ := vx_keep h0 e1 hS hAX hf hL hF
    obtain ⟨t2, a1, b1⟩ := kx E ce q u t T'.heap (locs ++ L) e1.symm (by rw [← e2]; exact X'.warmed.alike) hp hb k1 k2 k3 (by rw [e1]; exact hce) hcv hcl T' rfl X'
    exact ⟨t2, st.trans a1, b1⟩
theorem vx_callv {S SX : Type} {post : S → Prop} {px : SX → Prop} {B : S → State → Prop} {BX : String → SX → State → Prop} {AX : Nat → Prop} (hr : vx_Run p l e R s m args below meth c H locs cells slots mc ms (F0 m pc ls st0) rest (va_Qv post B A1 a) (vx_X px BX AX) free) (hS : va_S A0 H0 H locs) (hA : ∀ q, q < H.size → A1 q → A0 q) (hf : ∀ q, free q → A0 q) (hAX : ∀ q, q < H.size → AX q → A0 q)
    (kx : ∀ (E : String) (ce : Cell) (q9 : Addr) (u : SX) (t : State) (H1 : Heap) (locs1 : List Loc), t.heap = H1 → s.vm.Alike t.vm → px u → BX E u t → H.size ≤ H1.size → (∀ q : Nat, q < H.size → ¬ AX q → H1[q]? = H[q]?) → va_S A0 H0 H1 locs1 → H1[q9]? = some ce → ce.vm = .none → s.vm.findClass E = some ce.cls → vx_W p l e R s m args below meth c H1 locs1 (cells + mc) (slots + ms) Q (F0 m pc ls rest) q9)
    (kk : ∀ (u : S) (t : State) (H1 : Heap) (locs1 : List Loc), t.heap = H1 → s.vm.Alike t.vm → post u → B u t → H.size ≤ H1.size → (∀ q : Nat, q < H.size → ¬ A1 q → H1[q]? = H[q]?) → va_S A0 H0 H1 locs1 → W p l e R s m args below meth c H1 locs1 (cells + mc) (slots + ms) Q (F0 m (pc + 3) ls (rest))) : W p l e R s m args below meth c H locs cells slots Q (F0 m pc ls st0) := by
  intro T hT X
  rcases hr T hT X with ⟨v, st₀, t, T', L, h0, X', hL, e1, e2, ⟨⟨u, hv, hp, hb⟩, hF⟩, st⟩ | ⟨q, st₀, t, T', L, E, ce, h0, X', hL, e1, e2, ⟨u, hp, hb, hF⟩, hce, hcv, hcl, st⟩
  · cases hv
    obtain ⟨k1, k2, k3⟩ := vx_keep h0 e1 hS hA hf hL hF
    obtain ⟨t2, a1, b1⟩ := kk u t T'.heap (locs ++ L) e1.symm (by rw [← e2]; exact X'.warmed.alike) hp hb k1 k2 k3 T' rfl X'
    exact ⟨t2, st t2 a1, b1⟩
  · obtain ⟨k1, k2, k3⟩ := vx_keep h0 e1 hS hAX hf hL hF
    obtain ⟨t2, a1, b1⟩ := kx E ce q u t T'.heap (locs ++ L) e1.symm (by rw [← e2]; exact X'.warmed.alike) hp hb k1 k2 k3 (by rw [e1]; exact hce) hcv hcl T' rfl X'
    exact ⟨t2, st.trans a1, b1⟩
/-- caught by the row x of this method's table; the rows ahead don't take it -/
theorem vx_catch {own name : String} {E : String} {ce : Cell} {q : Addr} (hown : s.vm.findClass own = some m.cls) (pre : List ExceptionTableEntry) (x : ExceptionTableEntry) (suf : List ExceptionTableEntry) (hsplit : c.exceptionTable.toList = pre ++ x :: suf)
    (hpass : ∀ z ∈ pre, covers z pc = false ∨ (z.catchType ≠ 0 ∧ ∃ nm : String, (Cond.classLink own z.catchType nm).before args s = true ∧ va_Nc E nm s)) (hx : covers x pc = true) (h0 : x.catchType ≠ 0)
    (hlink : (Cond.classLink own x.catchType name).before args s = true) (hcast : (Cond.castable E name).before args s = true) (hcell : H[q]? = some ce) (hv : ce.vm = .none) (hcl : s.vm.findClass E = some ce.cls)
    (kk : W p l e R s m args below meth c H locs cells slots Q (F0 m x.handlerPc ls [.ref q])) : vx_W p l e R s m args below meth c H locs cells slots Q (F0 m pc ls rest) q := by
  intro T hT X
  have hpl : e.platform.magicAccessors = ({} : Platform).magicAccessors := by rw [X.admits.platform]
  obtain ⟨c3, c4, hc3, hc4, hasg⟩ := Cond.castable_spec hcast
  cases Option.some.inj (hc3.symm.trans hcl)
  obtain ⟨c5, hc5, hcl5⟩ := Cond.classLink_spec hown hlink e.platform hpl
  cases Option.some.inj (hc4.symm.trans hc5)
  obtain ⟨vm', X', st⟩ := X.thenCaughtThrough q (g := F0 m pc ls rest) rfl (Steps.refl _) (by rw [hT]; exact hcell) (by rw [hv]; rfl) (by obtain ⟨k9, h9, -⟩ := Vm.findClass_spec hcl; exact ⟨k9, h9⟩) pre x suf hsplit
    (fun z hz => by
      rcases hpass z hz with h | ⟨hz0, nm, hl1, hn1⟩
      · exact Or.inl h
      · obtain ⟨c6, hc6, hcl6⟩ := Cond.classLink_spec hown hl1 e.platform hpl
        obtain ⟨a8, b8, h1, h2, h3⟩ := hn1
        cases Option.some.inj (h1.symm.trans hcl)
        cases Option.some.inj (h2.symm.trans hc6)
        exact Or.inr ⟨hz0, _, hcl6, h3⟩) hx (Or.inr ⟨h0, c4, hcl5, hasg⟩)
  obtain ⟨t, a1, b1⟩ := kk (T.setVm vm') hT X'
  exact ⟨t, st.trans a1, b1⟩
end Rows
section Ends
variable {p : Program} {l : Launch} {e : Env} {R : Room} {s : State} {m : MethodId} {args : Array Value} {below : List Frame} {meth : Method} {c : Code} {H : Heap} {locs : List Loc} {cells slots : Nat} {Q : State → Prop}
variable {mc ms : Nat} {free : Addr → Prop} {A0 A1 : Nat → Prop} {H0 : Heap} {a : Array Value} {ls : Array Slot} {st0 rest : List Value}
variable {Qc : Array Value → State → Outcome → State → Prop} {XC : String → State → State → Prop}
/-- what a body that may throw owes at its end -/
def vx_MQ (below : List Frame) (Qc : Array Value → State → Outcome → State → Prop) (XC : String → State → State → Prop) (a : Array Value) (s : State) (mc ms : Nat) (free : Addr → Prop) : State → Prop := fun t =>
  ∃ o, t.status = .running ∧ Ended t below o ∧ vx_Q Qc XC mc ms free a s o t
theorem vx_ret {g : JFrame} {mc ms : Nat} (k : W p l e R s m args below meth c H locs cells slots (MQ below Qc args s mc ms free) g) : W p l e R s m args below meth c H locs cells slots (vx_MQ below Qc XC args s mc ms free) g := by
  intro T hT X
  obtain ⟨t, a1, o, b1, b2, b3, b4⟩ := k T hT X
  exact ⟨t, a1, o, b1, b2, Or.inl ⟨b3, b4⟩⟩
/-- not caught here: it goes on to the caller -/
theorem vx_widen {g : JFrame} {q : Addr} {k n : Nat} (h1 : cells ≤ k) (h2 : slots ≤ n) (kk : vx_W p l e R s m args below meth c H locs k n Q g q) : vx_W p l e R s m args below meth c H locs cells slots Q g q := fun T hT X => kk T hT (stand_widen X h1 h2)
theorem vx_out {pc : Nat} {E : String} {ce : Cell} {q : Addr} {mc ms : Nat} (hout : ∀ x ∈ c.exceptionTable.toList, covers x pc = false) (hlocks : meth.locks = false) (hcell : H[q]? = some ce) (hv : ce.vm = .none) (hcl : s.vm.findClass E = some ce.cls)
    (hx : ∀ t : State, t.heap = H → s.vm.Alike t.vm → XC E s t) (hf : ∀ z ∈ locs, free z.base) (hc : cells ≤ mc) (hs : slots ≤ ms) :
    vx_W p l e R s m args below meth c H locs cells slots (vx_MQ below Qc XC args s mc ms free) (F0 m pc ls rest) q := by
  intro T hT X
  obtain ⟨st1, hrun, hend, hW, hsm⟩ := X.leaveThrown q (g := F0 m pc ls rest) rfl rfl rfl hout hlocks
  have hcell9 : (T.setFrames (.throwing q :: below)).heap[q]? = some ce := by
    show T.heap[q]? = some ce
    rw [hT]; exact hcell
  exact ⟨_, st1, .threw q, hrun, hend, Or.inr ⟨q, rfl, E, ce, locs, hx _ hT hW.alike, hcell9, hv, hcl, hW, hsm.mono hc hs, hf⟩⟩
theorem vx_frame {U : State} {k n : Nat} (h : s.sameButNew ({ U with vm := s.vm } : State) locs k n) : s.heap.size ≤ U.heap.size ∧ ∀ q : Nat, q < s.heap.size → (∀ z ∈ locs, z.base ≠ q) → U.heap[q]? = s.heap[q]? := by
  obtain ⟨-, h2, -, -, -, h6⟩ := h
  refine ⟨h2, fun q hq hz => ?_⟩
  obtain ⟨c9, e1, e2, e3, e4⟩ := h6 q _ (Array.getElem?_eq_getElem hq)
  have hs : c9.slots = (s.heap[q]).slots := Array.ext_getElem? fun i => e4 i fun hm => hz _ hm rfl
  have h9 : c9 = s.heap[q] := by
    rw [hs] at e2
    exact e2
  have e5 : U.heap[q]? = some c9 := e1
  rw [e5, h9, Array.getElem?_eq_getElem hq]
/-- the words of a throw but the four that speak of the heap -/
def vx_no (w : Cond) : Bool := decide (w ≠ .isRef (.static Bundle.tN "UNASSIGNED_STACK" Bundle.steD)) && decide (w ≠ .isRef (.static Bundle.tN "SUPPRESSED_SENTINEL" Bundle.listD)) && decide (w ≠ .laysStatic Bundle.tN "UNASSIGNED_STACK" Bundle.steD) && decide (w ≠ .laysStatic Bundle.tN "SUPPRESSED_SENTINEL" Bundle.listD)
def vx_at0 (own : String) (ic : Nat) (X : String) (names : List String) : List Cond := (Bundle.ownAtoms0 own ic X names).filter vx_no
def vx_atS (own : String) (ic : Nat) (X : String) (names : List String) : List Cond := (Bundle.ownAtoms own ic X names).filter vx_no
/-- a word that the tables alone decide, or a good one -/
def vx_ot (w : Cond) : Bool := w.onTables || goodWord w
theorem vx_ot_at {args a' : Array Value} {s U : State} {w : Cond} (hW : s.WarmedH U.vm) (hvm : s.vm = U.vm) (hg : vx_ot w = true) (h : w.before args s = true) : w.before a' U = true := by
  simp only [vx_ot, Bool.or_eq_true] at hg
  rcases hg with hg | hg
  · exact va_tabs hg hvm h
  · exact word_at hW (good_of_word hg) h
/-- a list's words: the good ones out of the method's own list, the others by premises of their own -/
theorem vx_hat {args : Array Value} {s : State} {L B : List Cond} (h1 : ∀ w ∈ L.filter goodWord, w.before args s = true) (h2 : ∀ w ∈ L.filter (fun w => !goodWord w), w ∈ B) (h3 : ∀ w ∈ B, w.before args s = true) : ∀ w ∈ L, w.before args s = true := by
  intro w hw
  by_cases g : goodWord w = true
  · exact h1 w (List.mem_filter.mpr ⟨hw, g⟩)
  · refine h3 w (h2 w (List.mem_filter.mpr ⟨hw, ?_⟩))
    show (!goodWord w) = true
    cases hgw : goodWord w
    · rfl
    · exact absurd hgw g
theorem vx_c {args : Array Value} {s : State} {w : Cond} {B : List Cond} (h : w.before args s = true) (t : ∀ w ∈ B, w.before args s = true) : ∀ w' ∈ w :: B, w'.before args s = true := fun w' h' => (List.mem_cons.mp h').elim (fun e => by rw [e]; exact h) (t w')
theorem vx_n {args : Array Value} {s : State} : ∀ w ∈ ([] : List Cond), w.before args s = true := fun _ h => nomatch h
theorem vx_own {args : Array Value} {s : State} {L : List Cond} (h1 : ∀ w ∈ L.filter vx_no, w.before args s = true)
    (hU : (Cond.isRef (.static Bundle.tN "UNASSIGNED_STACK" Bundle.steD)).before args s = true) (hN : (Cond.isRef (.static Bundle.tN "SUPPRESSED_SENTINEL" Bundle.listD)).before args s = true)
    (lU : (Cond.laysStatic Bundle.tN "UNASSIGNED_STACK" Bundle.steD).before args s = true) (lN : (Cond.laysStatic Bundle.tN "SUPPRESSED_SENTINEL" Bundle.listD).before args s = true) : ∀ w ∈ L, w.before args s = true := by
  intro w hw
  by_cases e1 : w = .isRef (.static Bundle.tN "UNASSIGNED_STACK" Bundle.steD)
  · rw [e1]; exact hU
  · by_cases e2 : w = .isRef (.static Bundle.tN "SUPPRESSED_SENTINEL" Bundle.listD)
    · rw [e2]; exact hN
    · by_cases e3 : w = .laysStatic Bundle.tN "UNASSIGNED_STACK" Bundle.steD
      · rw [e3]; exact lU
      · by_cases e4 : w = .laysStatic Bundle.tN "SUPPRESSED_SENTINEL" Bundle.listD
        · rw [e4]; exact lN
        · exact h1 w (List.mem_filter.mpr ⟨hw, by unfold vx_no; rw [decide_eq_true e1, decide_eq_true e2, decide_eq_true e3, decide_eq_true e4]; rfl⟩)
/-- where a static field lies, its class's statics cell in H -/
def vx_L (C n d : String) (A : Nat → Prop) (U : State) (H : Heap) : Prop := ∃ (c : ClassId) (k : Class) (i : Nat) (f : Field) (a : Nat) (cell : Cell), U.vm.findClass C = some c ∧ U.fieldFound? C n d = some (c, k, i, f) ∧ f.isStatic = true ∧ k.statics = some a ∧ H[a]? = some cell ∧ cell.vm.isStatics = true ∧ cell.cls = c ∧ f.slot < cell.slots.size ∧ k.staticTypes[f.slot]? = some f.type ∧ ¬ A a
theorem vx_L.moved {C n d : String} {A : Nat → Prop} {u U : State} {H : Heap} (hvm : u.vm.Alike U.vm) (h : vx_L C n d A u H) : vx_L C n d A U H := by
  obtain ⟨c, k, i, f, a, cell, h1, h2, h3, h4, h5, h6, h7, h8, h9, h10⟩ := h
  obtain ⟨k', hi', he⟩ := State.fieldFound?_setVm hvm h2
  exact ⟨c, k', i, f, a, cell, by rw [hvm.findClass]; exact h1, hi', h3, by rw [he]; exact h4, h5, h6, h7, h8, by rw [he]; exact h9, h10⟩
theorem vx_L.kept {C n d : String} {A : Nat → Prop} {U : State} {H H1 : Heap} (h : vx_L C n d A U H) (hq : ∀ a : Nat, a < H.size → ¬ A a → H1[a]? = H[a]?) : vx_L C n d A U H1 := by
  obtain ⟨c, k, i, f, a, cell, h1, h2, h3, h4, h5, h6, h7, h8, h9, h10⟩ := h
  exact ⟨c, k, i, f, a, cell, h1, h2, h3, h4, by rw [hq a (Array.getElem?_eq_some_iff.mp h5).1 h10]; exact h5, h6, h7, h8, h9, h10⟩
theorem vx_L.narrow {C n d : String} {A B : Nat → Prop} {U : State} {H : Heap} (h : vx_L C n d A U H) (hAB : ∀ q, B q → A q) : vx_L C n d B U H := by
  obtain ⟨c, k, i, f, a, cell, h1, h2, h3, h4, h5, h6, h7, h8, h9, h10⟩ := h
  exact ⟨c, k, i, f, a, cell, h1, h2, h3, h4, h5, h6, h7, h8, h9, fun z => h10 (hAB _ z)⟩
theorem vx_L.word {C n d : String} {A : Nat → Prop} {s : State} {args : Array Value} (h : vx_L C n d A s s.heap) : (Cond.laysStatic C n d).before args s = true := by
  obtain ⟨c, k, i, f, a, cell, h1, h2, h3, h4, h5, h6, h7, h8, h9, -⟩ := h
  show (Cond.laysStatic C n d).holds args s none s [] = true
  exact Cond.laysStatic_of h1 h2 h3 h4 h5 h6 h7 h8 h9
/-- .. and what it holds: null or some reference -/
def vx_Zq (C n d : String) (A : Nat → Prop) (U : State) (H : Heap) : Prop := va_Zq C n d A U H ∧ vx_L C n d A U H
theorem vx_Zq.moved {C n d : String} {A : Nat → Prop} {u U : State} {H : Heap} (hvm : u.vm.Alike U.vm) (h : vx_Zq C n d A u H) : vx_Zq C n d A U H := ⟨va_Zq.moved hvm h.1, vx_L.moved hvm h.2⟩
theorem vx_Zq.kept {C n d : String} {A : Nat → Prop} {U : State} {H H1 : Heap} (h : vx_Zq C n d A U H) (hq : ∀ a : Nat, a < H.size → ¬ A a → H1[a]? = H[a]?) : vx_Zq C n d A U H1 := ⟨va_Zq.kept h.1 hq, vx_L.kept h.2 hq⟩
theorem vx_Zq.narrow {C n d : String} {A B : Nat → Prop} {U : State} {H : Heap} (h : vx_Zq C n d A U H) (hAB : ∀ q, B q → A q) : vx_Zq C n d B U H := ⟨va_Zq.narrow h.1 hAB, vx_L.narrow h.2 hAB⟩
theorem vx_Zqof {args : Array Value} {s : State} {C n d : String} {A : Nat → Prop} (hl : (Cond.laysStatic C n d).before args s = true) (hini : (Cond.initialized C).before args s = true) (h : (Cond.isRef (.static C n d)).before args s = true) (hA : ∀ a : Nat, a < s.heap.size → ¬ A a) : vx_Zq C n d A s s.heap := by
  refine ⟨va_Zqof hl hini h hA, ?_⟩
  obtain ⟨c, k, i, f, a, cell, h1, h2, h3, h4, h5, h6, h7, h8, h9⟩ := Cond.laysStatic_spec hl
  exact ⟨c, k, i, f, a, cell, h1, h2, h3, h4, h5, h6, h7, h8, h9, hA a (Array.getElem?_eq_some_iff.mp h5).1⟩
theorem vx_isRef {C n d : String} {v : Value} {A : Nat → Prop} {s : State} {args : Array Value} (h : va_Z C n d v A s s.heap) (hv : v.isRef = true) : (Cond.isRef (.static C n d)).before args s = true := by
  obtain ⟨cf, kf, fi, f, a, cell, h1, h2, h3, h4, h5, h6, h7, -⟩ := h
  have he : (Term.static C n d).eval args s none [] s = some v := by
    simp [Term.eval, State.fieldNamed?, h1, h2, h4, h5, h6, h7]
  simp only [Cond.before, Cond.holds, Cond.value, he]
  cases v <;> simp_all [Value.isRef]
theorem vx_isRefq {C n d : String} {A : Nat → Prop} {s : State} {args : Array Value} (h : va_Zq C n d A s s.heap) : (Cond.isRef (.static C n d)).before args s = true := by
  rcases h with h | ⟨t, h⟩
  · exact vx_isRef h rfl
  · exact vx_isRef h rfl
/-- the same frame, seen from here: as if the method were called anew in this heap -/
theorem vx_rebase {T : State} (X : Stand p l e R s m args below meth c T locs cells slots) {R' : Room} (hf : R'.frames ≤ R.frames) (hl : R'.locals ≤ R.locals) (hc : cells + R'.cells ≤ R.cells) (hs : slots + R'.slots ≤ R.slots) :
    Stand p l e R' ((T.setVm s.vm).setFrames (.invoking m args :: below)) m args below meth c T [] 0 0 := by
  have htop : (T.setVm s.vm).topJava?.isSome := X.here.top
  have hF : ((T.setVm s.vm).setFrames (.invoking m args :: below)).frames = .invoking m args :: below := State.frames_setFrames _ (State.cur_lt_of_top htop)
  obtain ⟨g₀, hg0⟩ := Option.isSome_iff_exists.mp htop
  obtain ⟨r, hr⟩ := State.topJava?_eq_some.mp hg0
  have hl9 : e.platform.stackLimits (T.setVm s.vm).me = e.platform.stackLimits s.me := X.limits
  have hb9 : (T.setVm s.vm).me.stackBytes = s.me.stackBytes := X.bytes
  refine ⟨X.admits, X.cas, X.clock, hF, ?_, X.hears, X.method, X.code, X.here, X.tail, X.warmed, ?_, ?_, ?_⟩
  · have h := X.room
    have hU : ((T.setVm s.vm).setFrames (.invoking m args :: below)).localsInUse = s.localsInUse := by
      rw [State.localsInUse_invoking hF (meth := meth) (c := c) X.method X.code, State.localsInUse_invoking X.frames X.method X.code]
    simp only [State.hasRoom, Bool.and_eq_true, decide_eq_true_eq] at h ⊢
    obtain ⟨⟨⟨⟨h1, h2, h3, h4, h5, h6⟩, h7⟩, h8⟩, h9⟩ := h
    rw [X.frames, List.length_cons] at h2 h3
    have q1 := X.heapSize
    have q2 := X.used
    simp only [hF, hU, List.length_cons, State.stackLimits_setFrames, State.stackBytes_setFrames, hl9, hb9]
    refine ⟨⟨⟨⟨by omega, by omega, by omega, by omega, by omega, h6⟩, ?_⟩, ?_⟩, X.book⟩
    · show T.heap.size + R'.cells ≤ e.platform.maxCells
      omega
    · show T.slotsUsed + R'.slots ≤ e.platform.maxSlots
      omega
  · rw [State.stackLimits_setFrames]; rfl
  · rw [State.stackBytes_setFrames]; rfl
  · refine ⟨?_, Nat.le_refl _, Nat.le_refl _, ?_, ?_, fun a c9 h9 => ⟨c9, h9, rfl, rfl, fun _ _ => rfl⟩⟩
    · obtain ⟨t, ht, -⟩ := State.frames_cons hr
      show T.setVm s.vm = { ((T.setVm s.vm).setFrames (.invoking m args :: below)).setFrames (T.setVm s.vm).frames with heap := T.heap, slotsUsed := T.slotsUsed }
      rw [State.setFrames_setFrames, State.setFrames_self ht]
      rfl
    · show T.slotsUsed = T.slotsUsed + ((T.heap.toList.drop T.heap.size).map (·.slots.size)).sum
      rw [List.drop_eq_nil_of_le (Nat.le_of_eq Array.length_toList)]
      rfl
    · show ((T.heap.toList.drop T.heap.size).map (·.slots.size)).sum ≤ 0
      rw [List.drop_eq_nil_of_le (Nat.le_of_eq Array.length_toList)]
      exact Nat.le_refl _
/-- 'throw new E()': new; dup; invokespecial; athrow -/
theorem vx_throw0 {cc : ByteArray} {pc : Nat} (hexec : p.tables.exec = Jvm.exec) (hb : c.code = cc) (hl : l.stackTraces = false) {own cls : String} {names : List String} {ik ic mc ms : Nat} {A : Nat → Prop}
    (hown : s.vm.findClass own = some m.cls) (hcls : Bundle.fit cls = true) (hnames : ∀ n ∈ names, Bundle.fit n = true)
    (hk : (Cond.classLink own ik cls).before args s = true) (hini : (Cond.initialized cls).before args s = true) (hat : ∀ w ∈ vx_at0 own ic cls names, w.before args s = true)
    (hgood : ∀ w ∈ Cond.classLink own ik cls :: Cond.initialized cls :: vx_at0 own ic cls names, vx_ot w = true)
    (hU : vx_Zq Bundle.tN "UNASSIGNED_STACK" Bundle.steD A s s.heap) (hN : vx_Zq Bundle.tN "SUPPRESSED_SENTINEL" Bundle.listD A s s.heap) (hS : va_S A s.heap H locs) (hsize : ls.size = c.maxLocals)
    (d0 : decode cc pc = .ok (.new ik, 3)) (d3 : decode cc (pc + 3) = .ok (.dup, 1)) (d4 : decode cc (pc + 4) = .ok (.invokespecial ic, 3)) (d7 : decode cc (pc + 7) = .ok (.athrow, 1))
    (hout : ∀ x ∈ c.exceptionTable.toList, covers x (pc + 7) = false)
    (hRframes : names.length + 3 < R.frames) (hRlocals : (rest.map fun v => v.category).sum + (13 * (names.length + 1) + 42) ≤ R.locals) (hRcells : cells + 1 ≤ R.cells) (hRslots : slots + 6 ≤ R.slots) (hlocks : meth.locks = false)
    (hx : ∀ t : State, s.vm.Alike t.vm → H.size ≤ t.heap.size → (∀ q : Nat, q < H.size → t.heap[q]? = H[q]?) → XC cls s t)
    (hf : ∀ z ∈ locs, free z.base) (hc : cells + 1 ≤ mc) (hs : slots + 6 ≤ ms) :
    W p l e R s m args below meth c H locs cells slots (vx_MQ below Qc XC args s mc ms free) (F0 m pc ls rest) := by
  intro T hT X
  have htr : e.platform.stackTraces = false := (show e.platform.stackTraces = l.stackTraces by rw [X.admits.platform]).trans hl
  have Y := vx_rebase X (R' := { frames := R.frames, locals := R.locals, cells := 1, slots := 6 }) (Nat.le_refl _) (Nat.le_refl _) hRcells hRslots
  obtain ⟨s', hA⟩ : ∃ z, z = (T.setVm s.vm).setFrames (.invoking m args :: below) := ⟨_, rfl⟩
  rw [← hA] at Y
  have hvm : s'.vm = s.vm := by rw [hA]; rfl
  have hhp : s'.heap = H := by rw [hA]; exact hT
  have hW0 : s.WarmedH s'.vm := by rw [hvm]; exact State.WarmedH.refl s
  have hat' : ∀ w ∈ vx_at0 own ic cls names, w.before args s' = true := fun w hw => vx_ot_at hW0 hvm.symm (hgood w (List.mem_cons_of_mem _ (List.mem_cons_of_mem _ hw))) (hat w hw)
  have hk' : (Cond.classLink own ik cls).before args s' = true := vx_ot_at hW0 hvm.symm (hgood _ List.mem_cons_self) hk
  have hini' : (Cond.initialized cls).before args s' = true := vx_ot_at hW0 hvm.symm (hgood _ (List.mem_cons_of_mem _ List.mem_cons_self)) hini
  have hU' : vx_Zq Bundle.tN "UNASSIGNED_STACK" Bundle.steD A s' s'.heap := by rw [hhp]; exact vx_Zq.moved hW0.alike (hU.kept hS.2.1)
  have hN' : vx_Zq Bundle.tN "SUPPRESSED_SENTINEL" Bundle.listD A s' s'.heap := by rw [hhp]; exact vx_Zq.moved hW0.alike (hN.kept hS.2.1)
  have h : ∀ w ∈ Bundle.ownAtoms0 own ic cls names, w.before args s' = true := vx_own hat' (vx_isRefq hU'.1) (vx_isRefq hN'.1) hU'.2.word hN'.2.word
  have hown' : s'.vm.findClass own = some m.cls := by rw [hvm]; exact hown
  have hins : (Cond.instantiable cls 6).before args s' = true := h _ (by simp [Bundle.ownAtoms0])
  obtain ⟨vm₁, cX, kX, hfX, hkX, -, -, X₁, st1⟩ := Y.newCold hexec (own := own) (C := cls) (index := ik) (n := 6) hown' hk' hins hini'
    (g := F0 m pc ls rest) rfl (by rw [hb]; exact d0) (Nat.le_refl _) (Nat.le_refl _)
  generalize hT1 : (T.setVm vm₁).pushCell { cls := cX, slots := kX.instanceTypes.map defaultValue, vm := .none } = T1 at X₁ st1
  have hcat : (Value.ref T.heap.size).category = 1 := rfl
  have hcellA : T1.heap[T.heap.size]? = some (freshCell cX kX) := by rw [← hT1]; exact State.heap_pushCell_size _ _
  have d3' : decode c.code (pc + 3) = .ok (.dup, 1) := by rw [hb]; exact d3
  obtain ⟨U, hsteps, hrun, hend, hW, hsame, ce, hce, hO⟩ := X₁.ctorThrow0 hexec htr (own := own) (cls := cls) (names := names) (ic := ic) hown' hcls hnames h (fun x hx => nomatch hx) hfX hkX hcellA (by rw [hhp, hT]; exact Nat.le_refl _)
    (g := { method := m, pc := pc + 4, locals := ls, stack := .ref T.heap.size :: .ref T.heap.size :: rest, locked := none }) rfl hsize rfl rfl (rest := rest) rfl
    (by rw [hb]; exact d4) (by rw [hb]; exact d7) hout hRframes (by simp only [List.map_cons, List.sum_cons, hcat]; omega) hlocks
  obtain ⟨f1, f2⟩ := vx_frame hsame
  rw [hhp] at f1 f2
  have hWs : s.WarmedH U.vm := State.WarmedH.trans hW0 hW
  have hcl : s.vm.findClass cls = some ce.cls := by
    have h9 := hO.cls
    rw [hvm] at h9
    exact h9
  have hall : s.sameButNew ({ U with vm := s.vm } : State) locs mc ms := by
    subst hA
    obtain ⟨e1, e2⟩ := hsame
    rw [State.setFrames_setFrames] at e1
    have h2 : (T.setVm s.vm).sameButNew ({ U with vm := s.vm } : State) [] (0 + 1) (0 + 6) := ⟨e1, e2⟩
    have h3 := X.same.trans h2
    rw [List.append_nil] at h3
    exact h3.mono hc hs
  refine ⟨U, ?_, .threw T.heap.size, hrun, hend, Or.inr ⟨T.heap.size, rfl, cls, ce, locs, hx U hWs.alike f1 (fun q hq => f2 q hq (fun z hz => nomatch hz)), hce, hO.vm, hcl, hWs, hall, hf⟩⟩
  refine st1 _ ?_
  show Steps p.tables e below (T1.setTop { method := m, pc := pc + 3, locals := ls, stack := .ref T.heap.size :: rest, locked := none }) _
  jvm_step X₁.here [X₁.here.top, hexec, d3', Value.category]
  exact hsteps
/-- 'throw new E("text")': new; dup; ldc; invokespecial; athrow -/
theorem vx_throwS {cc : ByteArray} {pc : Nat} (hexec : p.tables.exec = Jvm.exec) (hb : c.code = cc) (hl : l.stackTraces = false) {own cls text : String} {names : List String} {ik is ic mc ms sa : Nat} {A : Nat → Prop}
    (hown : s.vm.findClass own = some m.cls) (hcls : Bundle.fit cls = true) (hnames : ∀ n ∈ names, Bundle.fit n = true)
    (hk : (Cond.classLink own ik cls).before args s = true) (hini : (Cond.initialized cls).before args s = true) (hstr : vk_R own is text sa s) (hat : ∀ w ∈ vx_atS own ic cls names, w.before args s = true)
    (hgood : ∀ w ∈ Cond.classLink own ik cls :: Cond.initialized cls :: vx_atS own ic cls names, vx_ot w = true)
    (hU : vx_Zq Bundle.tN "UNASSIGNED_STACK" Bundle.steD A s s.heap) (hN : vx_Zq Bundle.tN "SUPPRESSED_SENTINEL" Bundle.listD A s s.heap) (hS : va_S A s.heap H locs) (hsize : ls.size = c.maxLocals)
    (d0 : decode cc pc = .ok (.new ik, 3)) (d3 : decode cc (pc + 3) = .ok (.dup, 1)) (d4 : decode cc (pc + 4) = .ok (.ldc is, 2)) (d6 : decode cc (pc + 6) = .ok (.invokespecial ic, 3)) (d9 : decode cc (pc + 9) = .ok (.athrow, 1))
    (hout : ∀ x ∈ c.exceptionTable.toList, covers x (pc + 9) = false)
    (hRframes : names.length + 3 < R.frames) (hRlocals : (rest.map fun v => v.category).sum + (13 * (names.length + 1) + 43) ≤ R.locals) (hRcells : cells + 1 ≤ R.cells) (hRslots : slots + 6 ≤ R.slots) (hlocks : meth.locks = false)
    (hx : ∀ t : State, s.vm.Alike t.vm → H.size ≤ t.heap.size → (∀ q : Nat, q < H.size → t.heap[q]? = H[q]?) → XC cls s t)
    (hf : ∀ z ∈ locs, free z.base) (hc : cells + 1 ≤ mc) (hs : slots + 6 ≤ ms) :
    W p l e R s m args below meth c H locs cells slots (vx_MQ below Qc XC args s mc ms free) (F0 m pc ls rest) := by
  intro T hT X
  have htr : e.platform.stackTraces = false := (show e.platform.stackTraces = l.stackTraces by rw [X.admits.platform]).trans hl
  have Y := vx_rebase X (R' := { frames := R.frames, locals := R.locals, cells := 1, slots := 6 }) (Nat.le_refl _) (Nat.le_refl _) hRcells hRslots
  obtain ⟨s', hA⟩ : ∃ z, z = (T.setVm s.vm).setFrames (.invoking m args :: below) := ⟨_, rfl⟩
  rw [← hA] at Y
  have hvm : s'.vm = s.vm := by rw [hA]; rfl
  have hhp : s'.heap = H := by rw [hA]; exact hT
  have hW0 : s.WarmedH s'.vm := by rw [hvm]; exact State.WarmedH.refl s
  have hat' : ∀ w ∈ vx_atS own ic cls names, w.before args s' = true := fun w hw => vx_ot_at hW0 hvm.symm (hgood w (List.mem_cons_of_mem _ (List.mem_cons_of_mem _ hw))) (hat w hw)
  have hk' : (Cond.classLink own ik cls).before args s' = true := vx_ot_at hW0 hvm.symm (hgood _ List.mem_cons_self) hk
  have hini' : (Cond.initialized cls).before args s' = true := vx_ot_at hW0 hvm.symm (hgood _ (List.mem_cons_of_mem _ List.mem_cons_self)) hini
  have hU' : vx_Zq Bundle.tN "UNASSIGNED_STACK" Bundle.steD A s' s'.heap := by rw [hhp]; exact vx_Zq.moved hW0.alike (hU.kept hS.2.1)
  have hN' : vx_Zq Bundle.tN "SUPPRESSED_SENTINEL" Bundle.listD A s' s'.heap := by rw [hhp]; exact vx_Zq.moved hW0.alike (hN.kept hS.2.1)
  have h : ∀ w ∈ Bundle.ownAtoms own ic cls names, w.before args s' = true := vx_own hat' (vx_isRefq hU'.1) (vx_isRefq hN'.1) hU'.2.word hN'.2.word
  have hown' : s'.vm.findClass own = some m.cls := by rw [hvm]; exact hown
  have hins : (Cond.instantiable cls 6).before args s' = true := h _ (by simp [Bundle.ownAtoms])
  obtain ⟨vm₁, cX, kX, hfX, hkX, -, -, X₁, st1⟩ := Y.newCold hexec (own := own) (C := cls) (index := ik) (n := 6) hown' hk' hins hini'
    (g := F0 m pc ls rest) rfl (by rw [hb]; exact d0) (Nat.le_refl _) (Nat.le_refl _)
  generalize hT1 : (T.setVm vm₁).pushCell { cls := cX, slots := kX.instanceTypes.map defaultValue, vm := .none } = T1 at X₁ st1
  have hcat : (Value.ref T.heap.size).category = 1 := rfl
  have hcellA : T1.heap[T.heap.size]? = some (freshCell cX kX) := by rw [← hT1]; exact State.heap_pushCell_size _ _
  have d3' : decode c.code (pc + 3) = .ok (.dup, 1) := by rw [hb]; exact d3
  have d4' : decode c.code (pc + 4) = .ok (.ldc is, 2) := by rw [hb]; exact d4
  have hstr' : vk_R own is text sa s' := vk_R.warm hW0 hstr
  obtain ⟨U, hsteps, hrun, hend, hW, hsame, ce, hce, hO⟩ := X₁.ctorThrowS hexec htr (own := own) (cls := cls) (names := names) (ic := ic) hown' hcls hnames h (fun x hx => nomatch hx) hfX hkX hcellA (by rw [hhp, hT]; exact Nat.le_refl _) (msg := .ref sa) rfl
    (g := { method := m, pc := pc + 6, locals := ls, stack := .ref sa :: .ref T.heap.size :: .ref T.heap.size :: rest, locked := none }) rfl hsize rfl rfl (rest := rest) rfl
    (by rw [hb]; exact d6) (by rw [hb]; exact d9) hout hRframes (by simp only [List.map_cons, List.sum_cons, hcat]; omega) hlocks
  obtain ⟨f1, f2⟩ := vx_frame hsame
  rw [hhp] at f1 f2
  have hWs : s.WarmedH U.vm := State.WarmedH.trans hW0 hW
  have hcl : s.vm.findClass cls = some ce.cls := by
    have h9 := hO.cls
    rw [hvm] at h9
    exact h9
  have hall : s.sameButNew ({ U with vm := s.vm } : State) locs mc ms := by
    subst hA
    obtain ⟨e1, e2⟩ := hsame
    rw [State.setFrames_setFrames] at e1
    have h2 : (T.setVm s.vm).sameButNew ({ U with vm := s.vm } : State) [] (0 + 1) (0 + 6) := ⟨e1, e2⟩
    have h3 := X.same.trans h2
    rw [List.append_nil] at h3
    exact h3.mono hc hs
  refine ⟨U, ?_, .threw T.heap.size, hrun, hend, Or.inr ⟨T.heap.size, rfl, cls, ce, locs, hx U hWs.alike f1 (fun q hq => f2 q hq (fun z hz => nomatch hz)), hce, hO.vm, hcl, hWs, hall, hf⟩⟩
  refine st1 _ ?_
  show Steps p.tables e below (T1.setTop { method := m, pc := pc + 3, locals := ls, stack := .ref T.heap.size :: rest, locked := none }) _
  jvm_step X₁.here [X₁.here.top, hexec, d3', Value.category]
  exact X₁.ldcString hexec (own := own) (text := text) (index := is) (a := sa) hown' hstr'.1 hstr'.2
    (g := { method := m, pc := pc + 4, locals := ls, stack := .ref T.heap.size :: .ref T.heap.size :: rest, locked := none }) rfl d4' _ hsteps
/-- 'throw new E("text")', the text by a wide index -/
theorem vx_throwSW {cc : ByteArray} {pc : Nat} (hexec : p.tables.exec = Jvm.exec) (hb : c.code = cc) (hl : l.stackTraces = false) {own cls text : String} {names : List String} {ik is ic mc ms sa : Nat} {A : Nat → Prop}
    (hown : s.vm.findClass own = some m.cls) (hcls : Bundle.fit cls = true) (hnames : ∀ n ∈ names, Bundle.fit n = true)
    (hk : (Cond.classLink own ik cls).before args s = true) (hini : (Cond.initialized cls).before args s = true) (hstr : vk_R own is text sa s) (hat : ∀ w ∈ vx_atS own ic cls names, w.before args s = true)
    (hgood : ∀ w ∈ Cond.classLink own ik cls :: Cond.initialized cls :: vx_atS own ic cls names, vx_ot w = true)
    (hU : vx_Zq Bundle.tN "UNASSIGNED_STACK" Bundle.steD A s s.heap) (hN : vx_Zq Bundle.tN "SUPPRESSED_SENTINEL" Bundle.listD A s s.heap) (hS : va_S A s.heap H locs) (hsize : ls.size = c.maxLocals)
    (d0 : decode cc pc = .ok (.new ik, 3)) (d3 : decode cc (pc + 3) = .ok (.dup, 1)) (d4 : decode cc (pc + 4) = .ok (.ldc_w is, 3)) (d7 : decode cc (pc + 7) = .ok (.invokespecial ic, 3)) (d10 : decode cc (pc + 10) = .ok (.athrow, 1))
    (hout : ∀ x ∈ c.exceptionTable.toList, covers x (pc + 10) = false)
    (hRframes : names.length + 3 < R.frames) (hRlocals : (rest.map fun v => v.category).sum + (13 * (names.length + 1) + 43) ≤ R.locals) (hRcells : cells + 1 ≤ R.cells) (hRslots : slots + 6 ≤ R.slots) (hlocks : meth.locks = false)
    (hx : ∀ t : State, s.vm.Alike t.vm → H.size ≤ t.heap.size → (∀ q : Nat, q < H.size → t.heap[q]? = H[q]?) → XC cls s t)
    (hf : ∀ z ∈ locs, free z.base) (hc : cells + 1 ≤ mc) (hs : slots + 6 ≤ ms) :
    W p l e R s m args below meth c H locs cells slots (vx_MQ below Qc XC args s mc ms free) (F0 m pc ls rest) := by
  intro T hT X
  have htr : e.platform.stackTraces = false := (show e.platform.stackTraces = l.stackTraces by rw [X.admits.platform]).trans hl
  have Y := vx_rebase X (R' := { frames := R.frames, locals := R.locals, cells := 1, slots := 6 }) (Nat.le_refl _) (Nat.le_refl _) hRcells hRslots
  obtain ⟨s', hA⟩ : ∃ z, z = (T.setVm s.vm).setFrames (.invoking m args :: below) := ⟨_, rfl⟩
  rw [← hA] at Y
  have hvm : s'.vm = s.vm := by rw [hA]; rfl
  have hhp : s'.heap = H := by rw [hA]; exact hT
  have hW0 : s.WarmedH s'.vm := by rw [hvm]; exact State.WarmedH.refl s
  have hat' : ∀ w ∈ vx_atS own ic cls names, w.before args s' = true := fun w hw => vx_ot_at hW0 hvm.symm (hgood w (List.mem_cons_of_mem _ (List.mem_cons_of_mem _ hw))) (hat w hw)
  have hk' : (Cond.classLink own ik cls).before args s' = true := vx_ot_at hW0 hvm.symm (hgood _ List.mem_cons_self) hk
  have hini' : (Cond.initialized cls).before args s' = true := vx_ot_at hW0 hvm.symm (hgood _ (List.mem_cons_of_mem _ List.mem_cons_self)) hini
  have hU' : vx_Zq Bundle.tN "UNASSIGNED_STACK" Bundle.steD A s' s'.heap := by rw [hhp]; exact vx_Zq.moved hW0.alike (hU.kept hS.2.1)
  have hN' : vx_Zq Bundle.tN "SUPPRESSED_SENTINEL" Bundle.listD A s' s'.heap := by rw [hhp]; exact vx_Zq.moved hW0.alike (hN.kept hS.2.1)
  have h : ∀ w ∈ Bundle.ownAtoms own ic cls names, w.before args s' = true := vx_own hat' (vx_isRefq hU'.1) (vx_isRefq hN'.1) hU'.2.word hN'.2.word
  have hown' : s'.vm.findClass own = some m.cls := by rw [hvm]; exact hown
  have hins : (Cond.instantiable cls 6).before args s' = true := h _ (by simp [Bundle.ownAtoms])
  obtain ⟨vm₁, cX, kX, hfX, hkX, -, -, X₁, st1⟩ := Y.newCold hexec (own := own) (C := cls) (index := ik) (n := 6) hown' hk' hins hini'
    (g := F0 m pc ls rest) rfl (by rw [hb]; exact d0) (Nat.le_refl _) (Nat.le_refl _)
  generalize hT1 : (T.setVm vm₁).pushCell { cls := cX, slots := kX.instanceTypes.map defaultValue, vm := .none } = T1 at X₁ st1
  have hcat : (Value.ref T.heap.size).category = 1 := rfl
  have hcellA : T1.heap[T.heap.size]? = some (freshCell cX kX) := by rw [← hT1]; exact State.heap_pushCell_size _ _
  have d3' : decode c.code (pc + 3) = .ok (.dup, 1) := by rw [hb]; exact d3
  have d4' : decode c.code (pc + 4) = .ok (.ldc_w is, 3) := by rw [hb]; exact d4
  have hstr' : vk_R own is text sa s' := vk_R.warm hW0 hstr
  obtain ⟨U, hsteps, hrun, hend, hW, hsame, ce, hce, hO⟩ := X₁.ctorThrowS hexec htr (own := own) (cls := cls) (names := names) (ic := ic) hown' hcls hnames h (fun x hx => nomatch hx) hfX hkX hcellA (by rw [hhp, hT]; exact Nat.le_refl _) (msg := .ref sa) rfl
    (g := { method := m, pc := pc + 7, locals := ls, stack := .ref sa :: .ref T.heap.size :: .ref T.heap.size :: rest, locked := none }) rfl hsize rfl rfl (rest := rest) rfl
    (by rw [hb]; exact d7) (by rw [hb]; exact d10) hout hRframes (by simp only [List.map_cons, List.sum_cons, hcat]; omega) hlocks
  obtain ⟨f1, f2⟩ := vx_frame hsame
  rw [hhp] at f1 f2
  have hWs : s.WarmedH U.vm := State.WarmedH.trans hW0 hW
  have hcl : s.vm.findClass cls = some ce.cls := by
    have h9 := hO.cls
    rw [hvm] at h9
    exact h9
  have hall : s.sameButNew ({ U with vm := s.vm } : State) locs mc ms := by
    subst hA
    obtain ⟨e1, e2⟩ := hsame
    rw [State.setFrames_setFrames] at e1
    have h2 : (T.setVm s.vm).sameButNew ({ U with vm := s.vm } : State) [] (0 + 1) (0 + 6) := ⟨e1, e2⟩
    have h3 := X.same.trans h2
    rw [List.append_nil] at h3
    exact h3.mono hc hs
  refine ⟨U, ?_, .threw T.heap.size, hrun, hend, Or.inr ⟨T.heap.size, rfl, cls, ce, locs, hx U hWs.alike f1 (fun q hq => f2 q hq (fun z hz => nomatch hz)), hce, hO.vm, hcl, hWs, hall, hf⟩⟩
  refine st1 _ ?_
  show Steps p.tables e below (T1.setTop { method := m, pc := pc + 3, locals := ls, stack := .ref T.heap.size :: rest, locked := none }) _
  jvm_step X₁.here [X₁.here.top, hexec, d3', Value.category]
  exact X₁.ldcStringW hexec (own := own) (text := text) (index := is) (a := sa) hown' hstr'.1 hstr'.2
    (g := { method := m, pc := pc + 4, locals := ls, stack := .ref T.heap.size :: .ref T.heap.size :: rest, locked := none }) rfl d4' _ hsteps
end Ends
section Bodies
variable {l : Launch}
theorem vx_ofW {y : MethodName} {ws ws' : List Cond} {rm : Room} {Pc : Array Value → State → Prop} {Qc : Array Value → State → Outcome → State → Prop} {XC : String → State → State → Prop} {mc ms : Nat} {free : Addr → Prop} {cc : ByteArray} {maxL : Nat} {ret : Option FieldType}
    (hy : plainName y.cls = true) (hw : ws = Cond.code y cc maxL ret :: ws')
    (body : ∀ p e s m args below meth c s₁, BodyLoose p l y (headSpec ws rm) cc maxL ret e s m args below meth c s₁ → c.maxLocals = maxL → (∀ x ∈ c.exceptionTable.toList, False) → Pc args s →
      W p l e (headSpec ws rm).room s m args below meth c s.heap [] 0 0 (vx_MQ below Qc XC args s mc ms free) (entryFrame m args maxL)) : vx_Met l y ws rm Pc Qc XC mc ms free := by
  refine MetFree.of_bodyS (code := cc) (maxLocals := maxL) (ret := ret) hy ?_ ?_
  · intro args s m h hn
    obtain ⟨meth, c, h1, h2, h3, h4, h5, h6, -, -⟩ := Cond.code_spec hn (atoms_spec (ws := ws) h _ (by rw [hw]; exact List.mem_cons_self))
    exact ⟨meth, c, h1, h2, h3, h4, h5, h6⟩
  · intro p e s m args below meth c s₁ B hml hP _
    have hh0 : s₁.heap = s.heap := by rw [B.state]; rfl
    have ht : ∀ x ∈ c.exceptionTable.toList, False := by
      obtain ⟨meth9, c9, h1, h2, -, -, -, -, h7, -⟩ := Cond.code_spec B.named (atoms_spec (ws := ws) B.pre _ (by rw [hw]; exact List.mem_cons_self))
      cases Option.some.inj (h1.symm.trans B.method)
      cases Option.some.inj (h2.symm.trans (Stand.of_body B).code)
      intro x hx
      rw [Array.isEmpty_iff.mp h7] at hx
      cases hx
    obtain ⟨t, a1, o, b1, b2, b3⟩ := body p e s m args below meth c s₁ B hml ht hP s₁ hh0 (Stand.of_body B)
    exact ⟨t, o, a1, b1, b2, b3⟩
/-- the table of a body with handlers -/
theorem vx_table {p : Program} {x y : MethodName} {S : Spec} {cc bytes : ByteArray} {maxL maxL' : Nat} {ret ret' : Option FieldType} {e : Env} {s s₁ : State} {m : MethodId} {args : Array Value} {below : List Frame} {meth : Method} {c : Code} {hh : List (Nat × Nat × Nat × Nat)}
    (B : BodyLoose p l y S cc maxL ret e s m args below meth c s₁) (h : (Cond.codeWith y bytes maxL' ret' hh).before args s = true) : c.exceptionTable.toList = tableOf hh := by
  obtain ⟨m9, meth9, c9, hn9, h1, h2, -, -, h6, -⟩ := Cond.codeWith_spec h
  cases Option.some.inj (hn9.symm.trans B.named)
  cases Option.some.inj (h1.symm.trans B.method)
  cases Option.some.inj (h2.symm.trans (Stand.of_body B).code)
  rw [← h6, table_eq]
end Bodies
end VXA
/-! ===== END ===== -/
/-! ===== BEGIN a static call of a method with an exception table ===== -/
section VXS
variable {p : Program} {l : Launch} {e : Env} {R : Room} {s : State} {m : MethodId} {args : Array Value} {below : List Frame} {meth : Method} {c : Code} {T : State} {H : Heap} {locs : List Loc} {cells slots : Nat}
abbrev vx_CSW (R : Room) (s : State) (args : Array Value) (own : String) (index : Nat) (y : MethodName) (bytes : ByteArray) (maxL : Nat) (ret : Option FieldType) (hh : List (Nat × Nat × Nat × Nat)) (ws : List Cond) (rm : Room) (mc ms n : Nat) : Prop :=
  (rm.cells = mc ∧ rm.slots = ms ∧ rm.frames + 1 ≤ R.frames ∧ 8 + (maxL + 11) + rm.locals ≤ R.locals ∧ (∀ w ∈ ws, ∀ (a' : Array Value) (U : State), s.WarmedH U.vm → w.before a' U = true) ∧ Cond.codeWith y bytes maxL ret hh ∈ ws) ∧
  (Cond.codeWith y bytes maxL ret hh).before args s = true ∧ (Cond.initialized y.cls).before args s = true ∧ (y.cls ≠ "java/lang/invoke/MethodHandle" ∧ y.cls ≠ "java/lang/invoke/VarHandle") ∧
  (∀ sig, parseMethodDescriptor y.desc = some sig → n = sig.parameters.length) ∧ (Cond.methodLink own index y).before args s = true ∧ (Cond.static y).before args s = true
theorem vx_cwSW {own : String} {index maxL mc ms : Nat} {y : MethodName} {bytes : ByteArray} {ret : Option FieldType} {hh : List (Nat × Nat × Nat × Nat)} {Ts ws ws' : List Cond} {rm : Room} (n : Nat) (ht : ∀ w ∈ Ts, w.before args s = true) (hT : GoodIn Ts (va_wsS own index y ws)) (hw : ws = Cond.codeWith y bytes maxL ret hh :: ws') (hrc : rm.cells = mc) (hrs : rm.slots = ms)
    (hd : y.cls ≠ "java/lang/invoke/MethodHandle" ∧ y.cls ≠ "java/lang/invoke/VarHandle" ∧ (parseMethodDescriptor y.desc).map (fun d => d.parameters.length) = some n) (hR : rm.frames + 1 ≤ R.frames ∧ 8 + (maxL + 11) + rm.locals ≤ R.locals) :
    vx_CSW R s args own index y bytes maxL ret hh ws rm mc ms n := by
  have ok : ∀ w ∈ va_wsS own index y ws, w.before args s = true := fun w h => ht w (hT w h).1
  have hG : GoodIn Ts ws := fun w h => hT w (by unfold va_wsS; exact List.mem_append_right _ h)
  have hc : Cond.codeWith y bytes maxL ret hh ∈ ws := by rw [hw]; exact List.mem_cons_self
  refine ⟨⟨hrc, hrs, hR.1, hR.2, pay_in ht hG, hc⟩, ht _ (hG _ hc).1, ok _ (by simp [va_wsS]), ⟨hd.1, hd.2.1⟩, fun sig h => ?_, ok _ (by simp [va_wsS]), ok _ (by simp [va_wsS])⟩
  have h2 := hd.2.2
  rw [h] at h2
  exact (Option.some.inj h2).symm
theorem vx_callSW (X : Stand p l e R s m args below meth c T locs cells slots) (hexec : p.tables.exec = Jvm.exec) {own : String} {index : Nat} {y : MethodName} {bytes : ByteArray} {maxL : Nat} {ret : Option FieldType} {hh : List (Nat × Nat × Nat × Nat)}
    (hown : s.vm.findClass own = some m.cls) (hlink : (Cond.methodLink own index y).before args s = true) (hstat : (Cond.static y).before args s = true) (hinit : (Cond.initialized y.cls).before args s = true)
    (hcode : (Cond.codeWith y bytes maxL ret hh).before args s = true) (hy : y.cls ≠ "java/lang/invoke/MethodHandle" ∧ y.cls ≠ "java/lang/invoke/VarHandle")
    {W9 : Nat} {Pre : Pt → Array Value → Prop} {Post : Pt → Array Value → Option Value → Pt → Prop} (hK : Back l R p e below s args y 3 W9 Pre Post)
    {g : JFrame} (hg : g.method = m) (hsize : g.locals.size = c.maxLocals) {argsL rest : List Value} (hlen : ∀ sig, parseMethodDescriptor y.desc = some sig → argsL.length = sig.parameters.length)
    (hstack : g.stack = argsL.reverse ++ rest) (hW : 2 * g.monitorRoom + (rest.map fun v => v.category).sum ≤ W9) (hdg : decode c.code g.pc = .ok (.invokestatic index, 3))
    (hpre : ∀ vm₁, s.WarmedH vm₁ → Pre ⟨T.setVm vm₁, locs, cells, slots⟩ argsL.toArray) :
    ∃ (v : Option Value) (vm₁ : Vm) (B : Pt), s.WarmedH vm₁ ∧ Stand p l e R s m args below meth c B.U B.locs B.cells B.slots ∧ Post ⟨T.setVm vm₁, locs, cells, slots⟩ argsL.toArray v B ∧
      ∀ target, Steps p.tables e below (B.U.setTop { g with pc := g.pc + 3, stack := v.toList ++ rest }) target → Steps p.tables e below (T.setTop g) target := by
  obtain ⟨mk, methM, cM, hnamed, hmethM, -, -, -, -, -, -, hsigM⟩ := Cond.codeWith_spec hcode
  have hstatic : methM.isStatic = true := Cond.static_spec hnamed hmethM hstat
  obtain ⟨kP, hkP, -⟩ := className_of_methodNamed hnamed
  have hinitP : kP.init = .initialized := Cond.initialized_spec (findClass_of_methodNamed hnamed) hkP hinit
  obtain ⟨vm₁, X₁, hstep₁⟩ := X.invokestatic hexec hown hlink hnamed hmethM hstatic hkP hinitP hy (g := g) hg (argsL := argsL) (rest := rest) (hlen _ hsigM) hstack hdg
  obtain ⟨v, B, X', hpost, hsteps⟩ := hK m meth c ⟨T.setVm vm₁, locs, cells, slots⟩ { g with stack := rest } (.invokestatic index) mk argsL.toArray X₁ hg hsize hdg hW (X₁.named hnamed) (hpre vm₁ X₁.warmed)
  exact ⟨v, vm₁, B, X₁.warmed, X', hpost, fun target h => hstep₁ _ fun acts => by rw [doInvoke_state]; exact hsteps.trans h⟩
theorem vx_runSW {y : MethodName} {bytes cc : ByteArray} {maxL nL mc ms n index : Nat} {ret : Option FieldType} {hh : List (Nat × Nat × Nat × Nat)} {ws : List Cond} {rm : Room} {Pc : Array Value → State → Prop} {Qc : Array Value → State → Outcome → State → Prop} {free : Addr → Prop} {Ts : List Cond} {own : String} {As rest : List Value} {g : JFrame}
    (S : CallFix p m c cc nL s args Ts own) (hM : Met l y ws rm Pc Qc mc ms free) (cw : vx_CSW R s args own index y bytes maxL ret hh ws rm mc ms n) (hp : PreS s H Pc As)
    (hg : g.method = m) (hn : As.length = n) (hsize : g.locals.size = nL) (hstack : g.stack = As.reverse ++ rest) (hW : 2 * g.monitorRoom + (rest.map fun v => v.category).sum ≤ 8) (hdg : decode cc g.pc = .ok (.invokestatic index, 3)) (hf : cells + mc ≤ R.cells ∧ slots + ms ≤ R.slots) :
    va_Run p l e R s m args below meth c H locs cells slots mc ms g rest (Qc As.toArray) (free) := by
  obtain ⟨⟨hrc, hrs, hfr, hlo, hws, hcw⟩, hcode, hini, hy, hlen, hl, hstt⟩ := cw
  have hK : Back l R p e below s args y 3 8 (PreOf R mc ms Pc) (PostOf Qc mc ms free) := va_backW (hh := hh) (bytes := bytes) (maxL := maxL) (ret := ret) hM hp.1 hrc hrs hfr hlo hws hcw (fun a' U hW => word_at hW (Or.inl (by first | rfl | simp [Cond.onTables, Cond.keeps, Cond.steady])) hini)
  obtain ⟨hx, hb, hml, ho, -⟩ := S
  intro T hT X
  obtain ⟨v, vm₁, ⟨U', l2, c2, s2⟩, hW₁, X', ⟨g', mk, t, L, e1, e2, hq, h1, hL, h2, h3⟩, st⟩ := vx_callSW X hx (hh := hh) (bytes := bytes) (maxL := maxL) (ret := ret) ho hl hstt hini hcode hy hK hg (hsize.trans hml.symm) (argsL := As) (rest := rest) (fun sig h => hn.trans (hlen sig h)) hstack hW (by rw [hb]; exact hdg)
    (fun vm₁ hW₁ => ⟨hf.1, hf.2, hp.2 (T.setVm vm₁) hT hW₁⟩)
  dsimp only [Pt.U, Pt.locs, Pt.cells, Pt.slots] at X' e1 e2 h1 h2 h3 st
  subst h1; subst h2; subst h3
  exact ⟨v, (T.setVm vm₁).calling g' mk As.toArray, t, U', L, hT, X', hL, e1, e2, hq, st⟩
/-- not caught here, past rows that name other classes: it goes on to the caller -/
theorem vx_outP {p : Program} {l : Launch} {e : Env} {R : Room} {s : State} {m : MethodId} {args : Array Value} {below : List Frame} {meth : Method} {c : Code} {H : Heap} {locs : List Loc} {cells slots : Nat} {free : Addr → Prop} {ls : Array Slot} {rest : List Value} {Qc : Array Value → State → Outcome → State → Prop} {XC : String → State → State → Prop}
    {pc : Nat} {own E : String} {ce : Cell} {q : Addr} {mc ms : Nat} (hown : s.vm.findClass own = some m.cls) (hlocks : meth.locks = false)
    (hpass : ∀ z ∈ c.exceptionTable.toList, covers z pc = false ∨ (z.catchType ≠ 0 ∧ ∃ nm : String, (Cond.classLink own z.catchType nm).before args s = true ∧ va_Nc E nm s)) (hcell : H[q]? = some ce) (hv : ce.vm = .none) (hcl : s.vm.findClass E = some ce.cls)
    (hx : ∀ t : State, t.heap = H → s.vm.Alike t.vm → XC E s t) (hf : ∀ z ∈ locs, free z.base) (hc : cells ≤ mc) (hs : slots ≤ ms) :
    vx_W p l e R s m args below meth c H locs cells slots (vx_MQ below Qc XC args s mc ms free) (F0 m pc ls rest) q := by
  intro T hT X
  have hpl : e.platform.magicAccessors = ({} : Platform).magicAccessors := by rw [X.admits.platform]
  obtain ⟨vm', hW', X', st⟩ := X.outThrough hlocks q (g := F0 m pc ls rest) rfl rfl rfl (cell := ce) (by rw [hT]; exact hcell) (by rw [hv]; rfl)
    (by obtain ⟨k9, h9, -⟩ := Vm.findClass_spec hcl; exact ⟨k9, h9⟩) (fun z hz => by
      rcases hpass z hz with h | ⟨hz0, nm, hl1, hn1⟩
      · exact Or.inl h
      · obtain ⟨c6, hc6, hcl6⟩ := Cond.classLink_spec hown hl1 e.platform hpl
        obtain ⟨a8, b8, h1, h2, h3⟩ := hn1
        cases Option.some.inj (h1.symm.trans hcl)
        cases Option.some.inj (h2.symm.trans hc6)
        exact Or.inr ⟨hz0, _, hcl6, h3⟩)
  obtain ⟨g₀, hfr⟩ := X'.frames_eq
  have hcell9 : ((T.setVm vm').setFrames (.throwing q :: below)).heap[q]? = some ce := by
    show T.heap[q]? = some ce
    rw [hT]; exact hcell
  have hend : Ended ((T.setVm vm').setFrames (.throwing q :: below)) below (.threw q) := State.frames_setFrames _ (State.cur_lt_of_frames hfr)
  refine ⟨(T.setVm vm').setFrames (.throwing q :: below), ?_, .threw q, X'.here.running, hend, Or.inr ⟨q, rfl, E, ce, locs, hx _ hT (X'.ends _).1.alike, hcell9, hv, hcl, (X'.ends _).1, (X'.ends _).2.mono hc hs, hf⟩⟩
  rw [X.pushThrowing_eq]
  exact st
/-- a thing of a world lies in the heap -/
theorem vx_lt {D : va_G} {cl : List vw_C} {ws : va_W} {H1 : Heap} (h : va_P D cl ws H1) {k : Nat} {q : Nat × va_E} (hk : ws[k]? = some q) : q.1 < H1.size := (h k q hk).lt
end VXS
/-! ===== END ===== -/
/-! ===== BEGIN methods with a table of their own: called by a name, returning or throwing ===== -/
section VXH
/-! vx_backW, vx_callVX, vx_callSX, vx_callVW, vx_runVW, vx_runVX, vx_runSX, vx_ofWH follow the same proofs as their sisters above (Free/Laws.lean, Shelf42/LK1.lean); vx_outP calls Shelf42/NT130.lean (outThrough). -/
section
variable {l : Launch} {R : Room} {p : Program} {e : Env} {below : List Frame} {s : State} {sargs : Array Value} {y : MethodName} {len W9 : Nat}
theorem vx_backW {ws : List Cond} {rm : Room} {Pc : Array Value → State → Prop} {Qc : Array Value → State → Outcome → State → Prop} {XC : String → State → State → Prop} {mc ms : Nat} {free : Addr → Prop} {bytes : ByteArray} {maxL : Nat} {ret : Option FieldType} {hh : List (Nat × Nat × Nat × Nat)}
    (hM : vx_Met l y ws rm Pc Qc XC mc ms free) (hblind : FrameBlind Pc) (hrc : rm.cells = mc) (hrs : rm.slots = ms)
    (hframes : rm.frames + 1 ≤ R.frames) (hlocals : W9 + (maxL + 11) + rm.locals ≤ R.locals)
    (hws : ∀ w ∈ ws, ∀ a' U, s.WarmedH U.vm → w.before a' U = true) (hcode : Cond.codeWith y bytes maxL ret hh ∈ ws) (hinit : ∀ a' U, s.WarmedH U.vm → (Cond.initialized y.cls).before a' U = true) :
    vx_Back l R p e below s sargs y len W9 (PreOf R mc ms Pc) (PostOf Qc mc ms free) (vx_Post XC mc ms free) := by
  intro m meth c A g ig mk a X hg hsize hdg hW hn hp
  have h1 : (headSpec ws rm).pre.before a A.U = true := atoms_intro fun w hw => hws w hw _ _ X.warmed
  have h2 : (Cond.codeWith y bytes maxL ret hh).before a A.U = true := hws _ hcode _ _ X.warmed
  have h3 : (Cond.initialized y.cls).before a A.U = true := hinit _ _ X.warmed
  have h4 : A.cells + (headSpec ws rm).room.cells ≤ R.cells := by rw [show (headSpec ws rm).room.cells = mc from hrc]; exact hp.1
  have h5 : A.slots + (headSpec ws rm).room.slots ≤ R.slots := by rw [show (headSpec ws rm).room.slots = ms from hrs]; exact hp.2.1
  have hPc : Pc a (A.U.calling g mk a) := hblind _ _ _ _ hp.2.2
  obtain ⟨U, Ls, c0, s0⟩ := A
  dsimp only [Pt.U, Pt.locs, Pt.cells, Pt.slots] at h1 h2 h3 h4 h5 X hn hPc ⊢
  obtain ⟨m9, methY, cY, hn9, hmY, hcY, -, hlY, -⟩ := Cond.codeWith_spec h2
  cases Option.some.inj (hn9.symm.trans hn)
  obtain ⟨kY, hkY, -⟩ := className_of_methodNamed hn
  have hinitY : kY.init = .initialized := Cond.initialized_spec (findClass_of_methodNamed hn) hkY h3
  have h : At U g.method c below := by rw [hg]; exact X.here
  have hlocals9 : W9 + (maxL + 11) + (headSpec ws rm).room.locals ≤ R.locals := hlocals
  have happ : (headSpec ws rm).appliesLoose y e.platform (U.calling g mk a) = true :=
    Spec.appliesLoose_calling (g := g) h hdg hn hkY hinitY
      (X.room_calling (g := g) (R' := (headSpec ws rm).room) hsize hmY hcY hframes (by rw [hlY]; omega) h4 h5) h1
  obtain ⟨mid, hmid⟩ := h.above
  have hfr : (U.setTop g).frames = (.java g :: mid) ++ below := by rw [State.frames_setTop' g h.top, hmid]; rfl
  obtain ⟨o, s₂, hsteps, -, hend, hq⟩ := Steps.callFree hM p X.admits X.cas X.clock (acts := []) hfr happ hPc trivial
  have hq' : vx_Q Qc XC mc ms free a (U.calling g mk a) o s₂ := hq
  rw [State.frames_setTop' g h.top] at hend
  obtain ⟨g₀, hg0⟩ := Option.isSome_iff_exists.mp h.top
  obtain ⟨r, hr⟩ := State.topJava?_eq_some.mp hg0
  have hr' : (({ U with heap := s₂.heap, slotsUsed := s₂.slotsUsed } : State).setVm s₂.vm).frames = .java g₀ :: r := hr
  rcases hq' with ⟨hqc, L, hfe, hL⟩ | ⟨q, rfl, E, ce, L, hx, hce, hcv, hcl, hW₂, hsm, hL⟩
  · obtain ⟨⟨v, rfl⟩, hW₂, e2, q2, q3, q4, q5, q6⟩ := id hfe
    have e3 : s₂ = ({ (U.calling g mk a).setFrames s₂.frames with heap := s₂.heap, slotsUsed := s₂.slotsUsed } : State).setVm s₂.vm := by
      have : s₂ = ({ s₂ with vm := (U.calling g mk a).vm } : State).setVm s₂.vm := rfl
      rw [e2] at this
      exact this
    obtain ⟨c₂, i₂, len₂, hc₂, hd₂, hf₂⟩ := hend
    have hW' : U.WarmedH s₂.vm := hW₂
    have hcc : c₂ = c := by
      have h1 : s₂.code? g.method = U.code? g.method := by
        rw [State.code?_eq, State.code?_eq, hW'.alike.method?]
      exact Option.some.inj (hc₂.symm.trans (h1.trans h.code))
    subst hcc
    have hlen : len₂ = len := by rw [hdg] at hd₂; cases hd₂; rfl
    subst hlen
    have hs₂ : s₂ = (({ U with heap := s₂.heap, slotsUsed := s₂.slotsUsed } : State).setVm s₂.vm).setTop { g with pc := g.pc + len₂, stack := v.toList ++ g.stack } := by
      refine e3.trans ?_
      rw [hf₂, State.calling_eq h.top, State.setFrames_setFrames, State.setTop_of_frames _ hr', hr]
      rfl
    have hsame : U.sameButNew ({ U with heap := s₂.heap, slotsUsed := s₂.slotsUsed } : State) L mc ms := by
      refine ⟨?_, q2, q3, q4, q5, q6⟩
      obtain ⟨t, ht, -⟩ := State.frames_cons hr
      show ({ U with heap := s₂.heap, slotsUsed := s₂.slotsUsed } : State) = { U.setFrames U.frames with heap := s₂.heap, slotsUsed := s₂.slotsUsed }
      rw [State.setFrames_self ht]
    subst hg
    refine Or.inl ⟨v, ⟨(({ U with heap := s₂.heap, slotsUsed := s₂.slotsUsed } : State).setVm s₂.vm), Ls ++ L, c0 + mc, s0 + ms⟩,
      ⟨X.admits, X.cas, X.clock, X.frames, X.room, X.hears, X.method, X.code, (X.here.setHeapUsed s₂.heap s₂.slotsUsed).setVm hW'.alike, X.tail, State.WarmedH.trans X.warmed hW', X.limits, X.bytes, X.same.trans (hsame.setVm s.vm)⟩,
      ⟨g, mk, s₂, L, rfl, rfl, hqc, rfl, hL, rfl, rfl⟩, ?_⟩
    show Steps p.tables e below _ ((({ U with heap := s₂.heap, slotsUsed := s₂.slotsUsed } : State).setVm s₂.vm).setTop { g with pc := g.pc + len₂, stack := v.toList ++ g.stack })
    rw [← hs₂]
    exact hsteps
  · obtain ⟨e2, q2, q3, q4, q5, q6⟩ := id hsm
    have e3 : s₂ = ({ (U.calling g mk a).setFrames s₂.frames with heap := s₂.heap, slotsUsed := s₂.slotsUsed } : State).setVm s₂.vm := by
      have : s₂ = ({ s₂ with vm := (U.calling g mk a).vm } : State).setVm s₂.vm := rfl
      rw [e2] at this
      exact this
    have hf₂ : s₂.frames = .throwing q :: .java g :: U.frames.tail := hend
    have hW' : U.WarmedH s₂.vm := hW₂
    have hs₂ : s₂ = ((({ U with heap := s₂.heap, slotsUsed := s₂.slotsUsed } : State).setVm s₂.vm).setTop g).pushFrame (.throwing q) := by
      refine e3.trans ?_
      rw [hf₂, State.calling_eq h.top, State.setFrames_setFrames, State.pushFrame, State.frames_setTop _ hr', State.setTop_of_frames _ hr', State.setFrames_setFrames, hr]
      rfl
    have hsame : U.sameButNew ({ U with heap := s₂.heap, slotsUsed := s₂.slotsUsed } : State) L mc ms := by
      refine ⟨?_, q2, q3, q4, q5, q6⟩
      obtain ⟨t, ht, -⟩ := State.frames_cons hr
      show ({ U with heap := s₂.heap, slotsUsed := s₂.slotsUsed } : State) = { U.setFrames U.frames with heap := s₂.heap, slotsUsed := s₂.slotsUsed }
      rw [State.setFrames_self ht]
    subst hg
    refine Or.inr ⟨q, ⟨(({ U with heap := s₂.heap, slotsUsed := s₂.slotsUsed } : State).setVm s₂.vm), Ls ++ L, c0 + mc, s0 + ms⟩,
      ⟨X.admits, X.cas, X.clock, X.frames, X.room, X.hears, X.method, X.code, (X.here.setHeapUsed s₂.heap s₂.slotsUsed).setVm hW'.alike, X.tail, State.WarmedH.trans X.warmed hW', X.limits, X.bytes, X.same.trans (hsame.setVm s.vm)⟩,
      ⟨g, mk, s₂, L, E, ce, rfl, rfl, hx, hce, hcv, hcl, rfl, hL, rfl, rfl⟩, ?_⟩
    show Steps p.tables e below _ (((({ U with heap := s₂.heap, slotsUsed := s₂.slotsUsed } : State).setVm s₂.vm).setTop g).pushFrame (.throwing q))
    rw [← hs₂]
    exact hsteps
end
variable {p : Program} {l : Launch} {e : Env} {R : Room} {s : State} {m : MethodId} {args : Array Value} {below : List Frame} {meth : Method} {c : Code} {T : State} {H : Heap} {locs : List Loc} {cells slots : Nat}
theorem vx_callVX (X : Stand p l e R s m args below meth c T locs cells slots) (hexec : p.tables.exec = Jvm.exec) {own C : String} {index : Nat} {y : MethodName} {bytes : ByteArray} {maxL : Nat} {ret : Option FieldType} {hh : List (Nat × Nat × Nat × Nat)}
    (hown : s.vm.findClass own = some m.cls) (hlink : (Cond.methodLink own index y).before args s = true) (hinst : (Cond.instanceMethod y).before args s = true) (hsel : (Cond.selects C y y).before args s = true)
    (hcode : (Cond.codeWith y bytes maxL ret hh).before args s = true) (hy : y.cls ≠ "java/lang/invoke/MethodHandle" ∧ y.cls ≠ "java/lang/invoke/VarHandle")
    {W9 : Nat} {Pre : Pt → Array Value → Prop} {Post : Pt → Array Value → Option Value → Pt → Prop} {PostX : Pt → Array Value → Addr → Pt → Prop} (hK : vx_Back l R p e below s args y 3 W9 Pre Post PostX)
    {b : Addr} {cellB : Cell} (hcell : T.heap[b]? = some cellB) (hobj : cellB.vm.isStatics = false) (hcls : s.vm.findClass C = some cellB.cls)
    {g : JFrame} (hg : g.method = m) (hsize : g.locals.size = c.maxLocals) {argsL rest : List Value} (hlen : ∀ sig, parseMethodDescriptor y.desc = some sig → argsL.length = sig.parameters.length)
    (hstack : g.stack = argsL.reverse ++ .ref b :: rest) (hW : 2 * g.monitorRoom + (rest.map fun v => v.category).sum ≤ W9) (hdg : decode c.code g.pc = .ok (.invokevirtual index, 3))
    (hpre : ∀ vm₁, s.WarmedH vm₁ → Pre ⟨T.setVm vm₁, locs, cells, slots⟩ (Value.ref b :: argsL).toArray) :
    (∃ (v : Option Value) (vm₁ : Vm) (B : Pt), s.WarmedH vm₁ ∧ Stand p l e R s m args below meth c B.U B.locs B.cells B.slots ∧ Post ⟨T.setVm vm₁, locs, cells, slots⟩ (Value.ref b :: argsL).toArray v B ∧
      ∀ target, Steps p.tables e below (B.U.setTop { g with pc := g.pc + 3, stack := v.toList ++ rest }) target → Steps p.tables e below (T.setTop g) target) ∨
    (∃ (q : Addr) (vm₁ : Vm) (B : Pt), s.WarmedH vm₁ ∧ Stand p l e R s m args below meth c B.U B.locs B.cells B.slots ∧ PostX ⟨T.setVm vm₁, locs, cells, slots⟩ (Value.ref b :: argsL).toArray q B ∧
      Steps p.tables e below (T.setTop g) ((B.U.setTop { g with stack := rest }).pushFrame (.throwing q))) := by
  obtain ⟨mk, methM, hnamed, hmethM, hstM, habM⟩ := Cond.instanceMethod_spec hinst
  obtain ⟨m8, methM', cM, hn8, hmethM', -, -, -, -, -, -, hsigM⟩ := Cond.codeWith_spec hcode
  cases Option.some.inj (hn8.symm.trans hnamed)
  cases hmethM.symm.trans hmethM'
  obtain ⟨c2, r2, m2, q1, q2, q3, q4, kP, hkP, hkPi⟩ := Cond.selects_spec hsel
  cases hcls.symm.trans q1
  cases (State.methodFound?_of_named hnamed hy).symm.trans q2
  cases hnamed.symm.trans q3
  have hselP : selectMethod e.platform s.vm cellB.cls mk = .method mk := by rw [Launch.admits_selectMethod X.admits]; exact q4
  obtain ⟨vm₁, X₁, hstep₁⟩ := X.invokevirtual hexec hown hlink hnamed hmethM hstM hkP hkPi hy (a := b) (cell := cellB) hcell
    (fun z h => by rw [h] at hobj; cases hobj) hselP hmethM habM hkP hkPi (g := g) hg (argsL := argsL) (rest := rest) (hlen _ hsigM) hstack hdg
  rcases hK m meth c ⟨T.setVm vm₁, locs, cells, slots⟩ { g with stack := rest } (.invokevirtual index) mk (Value.ref b :: argsL).toArray X₁ hg hsize hdg hW (X₁.named hnamed) (hpre vm₁ X₁.warmed) with ⟨v, B, X', hpost, hsteps⟩ | ⟨q, B, X', hpost, hsteps⟩
  · exact Or.inl ⟨v, vm₁, B, X₁.warmed, X', hpost, fun target h => hstep₁ _ fun acts => by rw [doInvoke_state]; exact hsteps.trans h⟩
  · exact Or.inr ⟨q, vm₁, B, X₁.warmed, X', hpost, hstep₁ _ fun acts => by rw [doInvoke_state]; exact hsteps⟩
theorem vx_callSX (X : Stand p l e R s m args below meth c T locs cells slots) (hexec : p.tables.exec = Jvm.exec) {own : String} {index : Nat} {y : MethodName} {bytes : ByteArray} {maxL : Nat} {ret : Option FieldType} {hh : List (Nat × Nat × Nat × Nat)}
    (hown : s.vm.findClass own = some m.cls) (hlink : (Cond.methodLink own index y).before args s = true) (hstat : (Cond.static y).before args s = true) (hinit : (Cond.initialized y.cls).before args s = true)
    (hcode : (Cond.codeWith y bytes maxL ret hh).before args s = true) (hy : y.cls ≠ "java/lang/invoke/MethodHandle" ∧ y.cls ≠ "java/lang/invoke/VarHandle")
    {W9 : Nat} {Pre : Pt → Array Value → Prop} {Post : Pt → Array Value → Option Value → Pt → Prop} {PostX : Pt → Array Value → Addr → Pt → Prop} (hK : vx_Back l R p e below s args y 3 W9 Pre Post PostX)
    {g : JFrame} (hg : g.method = m) (hsize : g.locals.size = c.maxLocals) {argsL rest : List Value} (hlen : ∀ sig, parseMethodDescriptor y.desc = some sig → argsL.length = sig.parameters.length)
    (hstack : g.stack = argsL.reverse ++ rest) (hW : 2 * g.monitorRoom + (rest.map fun v => v.category).sum ≤ W9) (hdg : decode c.code g.pc = .ok (.invokestatic index, 3))
    (hpre : ∀ vm₁, s.WarmedH vm₁ → Pre ⟨T.setVm vm₁, locs, cells, slots⟩ argsL.toArray) :
    (∃ (v : Option Value) (vm₁ : Vm) (B : Pt), s.WarmedH vm₁ ∧ Stand p l e R s m args below meth c B.U B.locs B.cells B.slots ∧ Post ⟨T.setVm vm₁, locs, cells, slots⟩ argsL.toArray v B ∧
      ∀ target, Steps p.tables e below (B.U.setTop { g with pc := g.pc + 3, stack := v.toList ++ rest }) target → Steps p.tables e below (T.setTop g) target) ∨
    (∃ (q : Addr) (vm₁ : Vm) (B : Pt), s.WarmedH vm₁ ∧ Stand p l e R s m args below meth c B.U B.locs B.cells B.slots ∧ PostX ⟨T.setVm vm₁, locs, cells, slots⟩ argsL.toArray q B ∧
      Steps p.tables e below (T.setTop g) ((B.U.setTop { g with stack := rest }).pushFrame (.throwing q))) := by
  obtain ⟨mk, methM, cM, hnamed, hmethM, -, -, -, -, -, -, hsigM⟩ := Cond.codeWith_spec hcode
  have hstatic : methM.isStatic = true := Cond.static_spec hnamed hmethM hstat
  obtain ⟨kP, hkP, -⟩ := className_of_methodNamed hnamed
  have hinitP : kP.init = .initialized := Cond.initialized_spec (findClass_of_methodNamed hnamed) hkP hinit
  obtain ⟨vm₁, X₁, hstep₁⟩ := X.invokestatic hexec hown hlink hnamed hmethM hstatic hkP hinitP hy (g := g) hg (argsL := argsL) (rest := rest) (hlen _ hsigM) hstack hdg
  rcases hK m meth c ⟨T.setVm vm₁, locs, cells, slots⟩ { g with stack := rest } (.invokestatic index) mk argsL.toArray X₁ hg hsize hdg hW (X₁.named hnamed) (hpre vm₁ X₁.warmed) with ⟨v, B, X', hpost, hsteps⟩ | ⟨q, B, X', hpost, hsteps⟩
  · exact Or.inl ⟨v, vm₁, B, X₁.warmed, X', hpost, fun target h => hstep₁ _ fun acts => by rw [doInvoke_state]; exact hsteps.trans h⟩
  · exact Or.inr ⟨q, vm₁, B, X₁.warmed, X', hpost, hstep₁ _ fun acts => by rw [doInvoke_state]; exact hsteps⟩
theorem vx_callVW (X : Stand p l e R s m args below meth c T locs cells slots) (hexec : p.tables.exec = Jvm.exec) {own C : String} {index : Nat} {y : MethodName} {bytes : ByteArray} {maxL : Nat} {ret : Option FieldType} {hh : List (Nat × Nat × Nat × Nat)}
    (hown : s.vm.findClass own = some m.cls) (hlink : (Cond.methodLink own index y).before args s = true) (hinst : (Cond.instanceMethod y).before args s = true) (hsel : (Cond.selects C y y).before args s = true)
    (hcode : (Cond.codeWith y bytes maxL ret hh).before args s = true) (hy : y.cls ≠ "java/lang/invoke/MethodHandle" ∧ y.cls ≠ "java/lang/invoke/VarHandle")
    {W9 : Nat} {Pre : Pt → Array Value → Prop} {Post : Pt → Array Value → Option Value → Pt → Prop} (hK : Back l R p e below s args y 3 W9 Pre Post)
    {b : Addr} {cellB : Cell} (hcell : T.heap[b]? = some cellB) (hobj : cellB.vm.isStatics = false) (hcls : s.vm.findClass C = some cellB.cls)
    {g : JFrame} (hg : g.method = m) (hsize : g.locals.size = c.maxLocals) {argsL rest : List Value} (hlen : ∀ sig, parseMethodDescriptor y.desc = some sig → argsL.length = sig.parameters.length)
    (hstack : g.stack = argsL.reverse ++ .ref b :: rest) (hW : 2 * g.monitorRoom + (rest.map fun v => v.category).sum ≤ W9) (hdg : decode c.code g.pc = .ok (.invokevirtual index, 3))
    (hpre : ∀ vm₁, s.WarmedH vm₁ → Pre ⟨T.setVm vm₁, locs, cells, slots⟩ (Value.ref b :: argsL).toArray) :
    ∃ (v : Option Value) (vm₁ : Vm) (B : Pt), s.WarmedH vm₁ ∧ Stand p l e R s m args below meth c B.U B.locs B.cells B.slots ∧ Post ⟨T.setVm vm₁, locs, cells, slots⟩ (Value.ref b :: argsL).toArray v B ∧
      ∀ target, Steps p.tables e below (B.U.setTop { g with pc := g.pc + 3, stack := v.toList ++ rest }) target → Steps p.tables e below (T.setTop g) target := by
  obtain ⟨mk, methM, hnamed, hmethM, hstM, habM⟩ := Cond.instanceMethod_spec hinst
  obtain ⟨m8, methM', cM, hn8, hmethM', -, -, -, -, -, -, hsigM⟩ := Cond.codeWith_spec hcode
  cases Option.some.inj (hn8.symm.trans hnamed)
  cases hmethM.symm.trans hmethM'
  obtain ⟨c2, r2, m2, q1, q2, q3, q4, kP, hkP, hkPi⟩ := Cond.selects_spec hsel
  cases hcls.symm.trans q1
  cases (State.methodFound?_of_named hnamed hy).symm.trans q2
  cases hnamed.symm.trans q3
  have hselP : selectMethod e.platform s.vm cellB.cls mk = .method mk := by rw [Launch.admits_selectMethod X.admits]; exact q4
  obtain ⟨vm₁, X₁, hstep₁⟩ := X.invokevirtual hexec hown hlink hnamed hmethM hstM hkP hkPi hy (a := b) (cell := cellB) hcell
    (fun z h => by rw [h] at hobj; cases hobj) hselP hmethM habM hkP hkPi (g := g) hg (argsL := argsL) (rest := rest) (hlen _ hsigM) hstack hdg
  obtain ⟨v, B, X', hpost, hsteps⟩ := hK m meth c ⟨T.setVm vm₁, locs, cells, slots⟩ { g with stack := rest } (.invokevirtual index) mk (Value.ref b :: argsL).toArray X₁ hg hsize hdg hW (X₁.named hnamed) (hpre vm₁ X₁.warmed)
  exact ⟨v, vm₁, B, X₁.warmed, X', hpost, fun target h => hstep₁ _ fun acts => by rw [doInvoke_state]; exact hsteps.trans h⟩
abbrev vx_CVW (R : Room) (s : State) (args : Array Value) (own C : String) (index : Nat) (y : MethodName) (bytes : ByteArray) (maxL : Nat) (ret : Option FieldType) (hh : List (Nat × Nat × Nat × Nat)) (ws : List Cond) (rm : Room) (mc ms n : Nat) : Prop :=
  (rm.cells = mc ∧ rm.slots = ms ∧ rm.frames + 1 ≤ R.frames ∧ 8 + (maxL + 11) + rm.locals ≤ R.locals ∧ (∀ w ∈ ws, ∀ (a' : Array Value) (U : State), s.WarmedH U.vm → w.before a' U = true) ∧ Cond.codeWith y bytes maxL ret hh ∈ ws) ∧
  (Cond.codeWith y bytes maxL ret hh).before args s = true ∧ (Cond.initialized y.cls).before args s = true ∧ (y.cls ≠ "java/lang/invoke/MethodHandle" ∧ y.cls ≠ "java/lang/invoke/VarHandle") ∧
  (∀ sig, parseMethodDescriptor y.desc = some sig → n = sig.parameters.length) ∧ (Cond.methodLink own index y).before args s = true ∧ (Cond.instanceMethod y).before args s = true ∧ (Cond.selects C y y).before args s = true
theorem vx_cwVW {own C : String} {index maxL mc ms : Nat} {y : MethodName} {bytes : ByteArray} {ret : Option FieldType} {hh : List (Nat × Nat × Nat × Nat)} {Ts ws ws' : List Cond} {rm : Room} (n : Nat) (ht : ∀ w ∈ Ts, w.before args s = true) (hT : GoodIn Ts (wsV own index C y ws)) (hw : ws = Cond.codeWith y bytes maxL ret hh :: ws') (hrc : rm.cells = mc) (hrs : rm.slots = ms)
    (hd : y.cls = C ∧ y.cls ≠ "java/lang/invoke/MethodHandle" ∧ y.cls ≠ "java/lang/invoke/VarHandle" ∧ (parseMethodDescriptor y.desc).map (fun d => d.parameters.length) = some n) (hR : rm.frames + 1 ≤ R.frames ∧ 8 + (maxL + 11) + rm.locals ≤ R.locals) :
    vx_CVW R s args own C index y bytes maxL ret hh ws rm mc ms n := by
  obtain ⟨hC, hd⟩ := hd
  subst hC
  have ok : ∀ w ∈ wsV own index y.cls y ws, w.before args s = true := fun w h => ht w (hT w h).1
  have hG : GoodIn Ts ws := fun w h => hT w (by unfold wsV; exact List.mem_append_right _ h)
  have hc : Cond.codeWith y bytes maxL ret hh ∈ ws := by rw [hw]; exact List.mem_cons_self
  refine ⟨⟨hrc, hrs, hR.1, hR.2, pay_in ht hG, hc⟩, ht _ (hG _ hc).1, ok _ (by simp [wsV]), ⟨hd.1, hd.2.1⟩, fun sig h => ?_, ok _ (by simp [wsV]), ok _ (by simp [wsV]), ok _ (by simp [wsV])⟩
  have h2 := hd.2.2
  rw [h] at h2
  exact (Option.some.inj h2).symm
theorem vx_runVW {y : MethodName} {bytes cc : ByteArray} {maxL nL mc ms n index : Nat} {ret : Option FieldType} {hh : List (Nat × Nat × Nat × Nat)} {ws : List Cond} {rm : Room} {Pc : Array Value → State → Prop} {Qc : Array Value → State → Outcome → State → Prop} {free : Addr → Prop} {Ts : List Cond} {own C : String} {b : Addr} {As rest : List Value} {g : JFrame}
    (S : CallFix p m c cc nL s args Ts own) (hM : Met l y ws rm Pc Qc mc ms free) (cw : vx_CVW R s args own C index y bytes maxL ret hh ws rm mc ms n) (hp : PreV s H C b Pc As)
    (hg : g.method = m) (hn : As.length = n) (hsize : g.locals.size = nL) (hstack : g.stack = As.reverse ++ .ref b :: rest) (hW : 2 * g.monitorRoom + (rest.map fun v => v.category).sum ≤ 8) (hdg : decode cc g.pc = .ok (.invokevirtual index, 3)) (hf : cells + mc ≤ R.cells ∧ slots + ms ≤ R.slots) :
    va_Run p l e R s m args below meth c H locs cells slots mc ms g rest (Qc (Value.ref b :: As).toArray) free := by
  obtain ⟨⟨hrc, hrs, hfr, hlo, hws, hcw⟩, hcode, hini, hy, hlen, hl, hin, hse⟩ := cw
  have hK : Back l R p e below s args y 3 8 (PreOf R mc ms Pc) (PostOf Qc mc ms free) := va_backW (hh := hh) (bytes := bytes) (maxL := maxL) (ret := ret) hM hp.1 hrc hrs hfr hlo hws hcw (fun a' U hW => word_at hW (Or.inl (by first | rfl | simp [Cond.onTables, Cond.keeps, Cond.steady])) hini)
  obtain ⟨hx, hb, hml, ho, -⟩ := S
  obtain ⟨-, ⟨cellB, hcB, hoB, hclB⟩, hPc⟩ := hp
  intro T hT X
  obtain ⟨v, vm₁, ⟨U', l2, c2, s2⟩, hW₁, X', ⟨g', mk, t, L, e1, e2, hq, h1, hL, h2, h3⟩, st⟩ := vx_callVW X hx (C := C) (hh := hh) (bytes := bytes) (maxL := maxL) (ret := ret) ho hl hin hse hcode hy hK (by rw [hT]; exact hcB) hoB hclB hg (hsize.trans hml.symm) (argsL := As) (rest := rest) (fun sig h => hn.trans (hlen sig h)) hstack hW (by rw [hb]; exact hdg)
    (fun vm₁ hW₁ => ⟨hf.1, hf.2, hPc (T.setVm vm₁) hT hW₁⟩)
  dsimp only [Pt.U, Pt.locs, Pt.cells, Pt.slots] at X' e1 e2 h1 h2 h3 st
  subst h1; subst h2; subst h3
  exact ⟨v, (T.setVm vm₁).calling g' mk (Value.ref b :: As).toArray, t, U', L, hT, X', hL, e1, e2, hq, st⟩
section
variable {y : MethodName} {bytes cc : ByteArray} {maxL nL mc ms n index : Nat} {ret : Option FieldType} {ws : List Cond} {rm : Room} {Pc : Array Value → State → Prop} {Qc : Array Value → State → Outcome → State → Prop} {XC : String → State → State → Prop} {free : Addr → Prop} {Ts : List Cond} {own C : String} {b : Addr} {As rest : List Value} {g : JFrame}
theorem vx_runVX {hh : List (Nat × Nat × Nat × Nat)} (S : CallFix p m c cc nL s args Ts own) (hM : vx_Met l y ws rm Pc Qc XC mc ms free) (cw : vx_CVW R s args own C index y bytes maxL ret hh ws rm mc ms n) (hp : PreV s H C b Pc As)
    (hg : g.method = m) (hn : As.length = n) (hsize : g.locals.size = nL) (hstack : g.stack = As.reverse ++ .ref b :: rest) (hW : 2 * g.monitorRoom + (rest.map fun v => v.category).sum ≤ 8) (hdg : decode cc g.pc = .ok (.invokevirtual index, 3)) (hf : cells + mc ≤ R.cells ∧ slots + ms ≤ R.slots) :
    vx_Run p l e R s m args below meth c H locs cells slots mc ms g rest (Qc (Value.ref b :: As).toArray) XC free := by
  obtain ⟨⟨hrc, hrs, hfr, hlo, hws, hcw⟩, hcode, hini, hy, hlen, hl, hin, hse⟩ := cw
  have hK : vx_Back l R p e below s args y 3 8 (PreOf R mc ms Pc) (PostOf Qc mc ms free) (vx_Post XC mc ms free) := vx_backW (hh := hh) (bytes := bytes) (maxL := maxL) (ret := ret) hM hp.1 hrc hrs hfr hlo hws hcw (fun a' U hW => word_at hW (Or.inl (by first | rfl | simp [Cond.onTables, Cond.keeps, Cond.steady])) hini)
  obtain ⟨hx, hb, hml, ho, -⟩ := S
  obtain ⟨-, ⟨cellB, hcB, hoB, hclB⟩, hPc⟩ := hp
  intro T hT X
  rcases vx_callVX X hx (C := C) (hh := hh) (bytes := bytes) (maxL := maxL) (ret := ret) ho hl hin hse hcode hy hK (by rw [hT]; exact hcB) hoB hclB hg (hsize.trans hml.symm) (argsL := As) (rest := rest) (fun sig h => hn.trans (hlen sig h)) hstack hW (by rw [hb]; exact hdg)
    (fun vm₁ hW₁ => ⟨hf.1, hf.2, hPc (T.setVm vm₁) hT hW₁⟩) with ⟨v, vm₁, ⟨U', l2, c2, s2⟩, hW₁, X', ⟨g', mk, t, L, e1, e2, hq, h1, hL, h2, h3⟩, st⟩ | ⟨q, vm₁, ⟨U', l2, c2, s2⟩, hW₁, X', ⟨g', mk, t, L, E, ce, e1, e2, hq, hce, hcv, hcl, h1, hL, h2, h3⟩, st⟩
  · dsimp only [Pt.U, Pt.locs, Pt.cells, Pt.slots] at X' e1 e2 h1 h2 h3 st
    subst h1; subst h2; subst h3
    exact Or.inl ⟨v, (T.setVm vm₁).calling g' mk (Value.ref b :: As).toArray, t, U', L, hT, X', hL, e1, e2, hq, st⟩
  · dsimp only [Pt.U, Pt.locs, Pt.cells, Pt.slots] at X' e1 e2 h1 h2 h3 st hcl
    subst h1; subst h2; subst h3
    exact Or.inr ⟨q, (T.setVm vm₁).calling g' mk (Value.ref b :: As).toArray, t, U', L, E, ce, hT, X', hL, e1, e2, hq, hce, hcv, vx_cls hW₁ hcl, st⟩
theorem vx_runSX {hh : List (Nat × Nat × Nat × Nat)} (S : CallFix p m c cc nL s args Ts own) (hM : vx_Met l y ws rm Pc Qc XC mc ms free) (cw : vx_CSW R s args own index y bytes maxL ret hh ws rm mc ms n) (hp : PreS s H Pc As)
    (hg : g.method = m) (hn : As.length = n) (hsize : g.locals.size = nL) (hstack : g.stack = As.reverse ++ rest) (hW : 2 * g.monitorRoom + (rest.map fun v => v.category).sum ≤ 8) (hdg : decode cc g.pc = .ok (.invokestatic index, 3)) (hf : cells + mc ≤ R.cells ∧ slots + ms ≤ R.slots) :
    vx_Run p l e R s m args below meth c H locs cells slots mc ms g rest (Qc As.toArray) XC free := by
  obtain ⟨⟨hrc, hrs, hfr, hlo, hws, hcw⟩, hcode, hini, hy, hlen, hl, hstt⟩ := cw
  have hK : vx_Back l R p e below s args y 3 8 (PreOf R mc ms Pc) (PostOf Qc mc ms free) (vx_Post XC mc ms free) := vx_backW (hh := hh) (bytes := bytes) (maxL := maxL) (ret := ret) hM hp.1 hrc hrs hfr hlo hws hcw (fun a' U hW => word_at hW (Or.inl (by first | rfl | simp [Cond.onTables, Cond.keeps, Cond.steady])) hini)
  obtain ⟨hx, hb, hml, ho, -⟩ := S
  intro T hT X
  rcases vx_callSX X hx (hh := hh) (bytes := bytes) (maxL := maxL) (ret := ret) ho hl hstt hini hcode hy hK hg (hsize.trans hml.symm) (argsL := As) (rest := rest) (fun sig h => hn.trans (hlen sig h)) hstack hW (by rw [hb]; exact hdg)
    (fun vm₁ hW₁ => ⟨hf.1, hf.2, hp.2 (T.setVm vm₁) hT hW₁⟩) with ⟨v, vm₁, ⟨U', l2, c2, s2⟩, hW₁, X', ⟨g', mk, t, L, e1, e2, hq, h1, hL, h2, h3⟩, st⟩ | ⟨q, vm₁, ⟨U', l2, c2, s2⟩, hW₁, X', ⟨g', mk, t, L, E, ce, e1, e2, hq, hce, hcv, hcl, h1, hL, h2, h3⟩, st⟩
  · dsimp only [Pt.U, Pt.locs, Pt.cells, Pt.slots] at X' e1 e2 h1 h2 h3 st
    subst h1; subst h2; subst h3
    exact Or.inl ⟨v, (T.setVm vm₁).calling g' mk As.toArray, t, U', L, hT, X', hL, e1, e2, hq, st⟩
  · dsimp only [Pt.U, Pt.locs, Pt.cells, Pt.slots] at X' e1 e2 h1 h2 h3 st hcl
    subst h1; subst h2; subst h3
    exact Or.inr ⟨q, (T.setVm vm₁).calling g' mk As.toArray, t, U', L, E, ce, hT, X', hL, e1, e2, hq, hce, hcv, vx_cls hW₁ hcl, st⟩
end
end VXH
theorem vx_ofWH {l : Launch} {y : MethodName} {ws ws' : List Cond} {rm : Room} {Pc : Array Value → State → Prop} {Qc : Array Value → State → Outcome → State → Prop} {XC : String → State → State → Prop} {mc ms : Nat} {free : Addr → Prop} {cc : ByteArray} {maxL : Nat} {ret : Option FieldType} {hh : List (Nat × Nat × Nat × Nat)}
    (hy : plainName y.cls = true) (hw : ws = Cond.codeWith y cc maxL ret hh :: ws')
    (body : ∀ p e s m args below meth c s₁, BodyLoose p l y (headSpec ws rm) cc maxL ret e s m args below meth c s₁ → c.maxLocals = maxL → Pc args s →
      W p l e (headSpec ws rm).room s m args below meth c s.heap [] 0 0 (vx_MQ below Qc XC args s mc ms free) (entryFrame m args maxL)) : vx_Met l y ws rm Pc Qc XC mc ms free := by
  refine MetFree.of_bodyS (code := cc) (maxLocals := maxL) (ret := ret) hy ?_ ?_
  · intro args s m h hn
    obtain ⟨m9, meth, c, hn9, h1, h2, h3, h4, -, h5, h6, -⟩ := Cond.codeWith_spec (atoms_spec (ws := ws) h _ (by rw [hw]; exact List.mem_cons_self))
    cases hn.symm.trans hn9
    exact ⟨meth, c, h1, h2, h3, h4, h5, h6⟩
  · intro p e s m args below meth c s₁ B hml hP _
    have hh0 : s₁.heap = s.heap := by rw [B.state]; rfl
    obtain ⟨t, a1, o, b1, b2, b3⟩ := body p e s m args below meth c s₁ B hml hP s₁ hh0 (Stand.of_body B)
    exact ⟨t, o, a1, b1, b2, b3⟩
/-! ===== END ===== -/
end
section
/-! ===== BEGIN a private method of a nest mate that may throw (follows va_callVN, va_callSN, va_runVN, va_runSN) ===== -/
section
variable {p : Program} {l : Launch} {e : Env} {R : Room} {s : State} {m : MethodId} {args : Array Value} {below : List Frame} {meth : Method} {c : Code} {H : Heap} {locs : List Loc} {cells slots : Nat}
variable {T : State}
theorem vx_callVN (X : Stand p l e R s m args below meth c T locs cells slots) (hexec : p.tables.exec = Jvm.exec) {own C : String} {index : Nat} {host : String} {y : MethodName} {bytes : ByteArray} {maxL : Nat} {ret : Option FieldType}
    (hown : s.vm.findClass own = some m.cls) (hlink : (Cond.methodLinkNest own index y host).before args s = true) (hinst : (Cond.instanceMethod y).before args s = true) (hsel : (Cond.selects C y y).before args s = true)
    (hcode : (Cond.code y bytes maxL ret).before args s = true) (hy : y.cls ≠ "java/lang/invoke/MethodHandle" ∧ y.cls ≠ "java/lang/invoke/VarHandle")
    {W : Nat} {Pre : Pt → Array Value → Prop} {Post : Pt → Array Value → Option Value → Pt → Prop} {PostX : Pt → Array Value → Addr → Pt → Prop} (hK : vx_Back l R p e below s args y 3 W Pre Post PostX)
    {b : Addr} {cellB : Cell} (hcell : T.heap[b]? = some cellB) (hobj : cellB.vm.isStatics = false) (hcls : s.vm.findClass C = some cellB.cls)
    {g : JFrame} (hg : g.method = m) (hsize : g.locals.size = c.maxLocals) {argsL rest : List Value} (hlen : ∀ sig, parseMethodDescriptor y.desc = some sig → argsL.length = sig.parameters.length)
    (hstack : g.stack = argsL.reverse ++ .ref b :: rest) (hW : 2 * g.monitorRoom + (rest.map fun v => v.category).sum ≤ W) (hdg : decode c.code g.pc = .ok (.invokevirtual index, 3))
    (hpre : ∀ vm₁, s.WarmedH vm₁ → Pre ⟨T.setVm vm₁, locs, cells, slots⟩ (Value.ref b :: argsL).toArray) :
    (∃ (v : Option Value) (vm₁ : Vm) (B : Pt), s.WarmedH vm₁ ∧ Stand p l e R s m args below meth c B.U B.locs B.cells B.slots ∧ Post ⟨T.setVm vm₁, locs, cells, slots⟩ (Value.ref b :: argsL).toArray v B ∧
      ∀ target, Steps p.tables e below (B.U.setTop { g with pc := g.pc + 3, stack := v.toList ++ rest }) target → Steps p.tables e below (T.setTop g) target) ∨
    (∃ (q : Addr) (vm₁ : Vm) (B : Pt), s.WarmedH vm₁ ∧ Stand p l e R s m args below meth c B.U B.locs B.cells B.slots ∧ PostX ⟨T.setVm vm₁, locs, cells, slots⟩ (Value.ref b :: argsL).toArray q B ∧
      Steps p.tables e below (T.setTop g) ((B.U.setTop { g with stack := rest }).pushFrame (.throwing q))) := by
  obtain ⟨mk, methM, hnamed, hmethM, hstM, habM⟩ := Cond.instanceMethod_spec hinst
  obtain ⟨methM', cM, hmethM', -, -, -, -, -, -, hsigM⟩ := Cond.code_spec hnamed hcode
  cases hmethM.symm.trans hmethM'
  obtain ⟨c2, r2, m2, q1, q2, q3, q4, kP, hkP, hkPi⟩ := Cond.selects_spec hsel
  cases hcls.symm.trans q1
  cases (State.methodFound?_of_named hnamed hy).symm.trans q2
  cases hnamed.symm.trans q3
  have hselP : selectMethod e.platform s.vm cellB.cls mk = .method mk := by rw [Launch.admits_selectMethod X.admits]; exact q4
  obtain ⟨vm₁, X₁, hstep₁⟩ := X.invokevirtualNest hexec hown hlink hnamed hmethM hstM hkP hkPi hy (a := b) (cell := cellB) hcell
    (fun z h => by rw [h] at hobj; cases hobj) hselP hmethM habM hkP hkPi (g := g) hg (argsL := argsL) (rest := rest) (hlen _ hsigM) hstack hdg
  rcases hK m meth c ⟨T.setVm vm₁, locs, cells, slots⟩ { g with stack := rest } (.invokevirtual index) mk (Value.ref b :: argsL).toArray X₁ hg hsize hdg hW (X₁.named hnamed) (hpre vm₁ X₁.warmed) with ⟨v, B, X', hpost, hsteps⟩ | ⟨q, B, X', hpost, hsteps⟩
  · exact Or.inl ⟨v, vm₁, B, X₁.warmed, X', hpost, fun target h => hstep₁ _ fun acts => by rw [doInvoke_state]; exact hsteps.trans h⟩
  · exact Or.inr ⟨q, vm₁, B, X₁.warmed, X', hpost, hstep₁ _ fun acts => by rw [doInvoke_state]; exact hsteps⟩
theorem vx_callSN (X : Stand p l e R s m args below meth c T locs cells slots) (hexec : p.tables.exec = Jvm.exec) {own : String} {index : Nat} {host : String} {y : MethodName} {bytes : ByteArray} {maxL : Nat} {ret : Option FieldType}
    (hown : s.vm.findClass own = some m.cls) (hlink : (Cond.methodLinkNest own index y host).before args s = true) (hstat : (Cond.static y).before args s = true) (hinit : (Cond.initialized y.cls).before args s = true)
    (hcode : (Cond.code y bytes maxL ret).before args s = true) (hy : y.cls ≠ "java/lang/invoke/MethodHandle" ∧ y.cls ≠ "java/lang/invoke/VarHandle")
    {W : Nat} {Pre : Pt → Array Value → Prop} {Post : Pt → Array Value → Option Value → Pt → Prop} {PostX : Pt → Array Value → Addr → Pt → Prop} (hK : vx_Back l R p e below s args y 3 W Pre Post PostX)
    {g : JFrame} (hg : g.method = m) (hsize : g.locals.size = c.maxLocals) {argsL rest : List Value} (hlen : ∀ sig, parseMethodDescriptor y.desc = some sig → argsL.length = sig.parameters.length)
    (hstack : g.stack = argsL.reverse ++ rest) (hW : 2 * g.monitorRoom + (rest.map fun v => v.category).sum ≤ W) (hdg : decode c.code g.pc = .ok (.invokestatic index, 3))
    (hpre : ∀ vm₁, s.WarmedH vm₁ → Pre ⟨T.setVm vm₁, locs, cells, slots⟩ argsL.toArray) :
    (∃ (v : Option Value) (vm₁ : Vm) (B : Pt), s.WarmedH vm₁ ∧ Stand p l e R s m args below meth c B.U B.locs B.cells B.slots ∧ Post ⟨T.setVm vm₁, locs, cells, slots⟩ argsL.toArray v B ∧
      ∀ target, Steps p.tables e below (B.U.setTop { g with pc := g.pc + 3, stack := v.toList ++ rest }) target → Steps p.tables e below (T.setTop g) target) ∨
    (∃ (q : Addr) (vm₁ : Vm) (B : Pt), s.WarmedH vm₁ ∧ Stand p l e R s m args below meth c B.U B.locs B.cells B.slots ∧ PostX ⟨T.setVm vm₁, locs, cells, slots⟩ argsL.toArray q B ∧
      Steps p.tables e below (T.setTop g) ((B.U.setTop { g with stack := rest }).pushFrame (.throwing q))) := by
  obtain ⟨mk, hnamed⟩ := Cond.code_named hcode
  obtain ⟨methM, cM, hmethM, -, -, -, -, -, -, hsigM⟩ := Cond.code_spec hnamed hcode
  have hstatic : methM.isStatic = true := Cond.static_spec hnamed hmethM hstat
  obtain ⟨kP, hkP, -⟩ := className_of_methodNamed hnamed
  have hinitP : kP.init = .initialized := Cond.initialized_spec (findClass_of_methodNamed hnamed) hkP hinit
  obtain ⟨vm₁, X₁, hstep₁⟩ := X.invokestaticNest hexec hown hlink hnamed hmethM hstatic hkP hinitP hy (g := g) hg (argsL := argsL) (rest := rest) (hlen _ hsigM) hstack hdg
  rcases hK m meth c ⟨T.setVm vm₁, locs, cells, slots⟩ { g with stack := rest } (.invokestatic index) mk argsL.toArray X₁ hg hsize hdg hW (X₁.named hnamed) (hpre vm₁ X₁.warmed) with ⟨v, B, X', hpost, hsteps⟩ | ⟨q, B, X', hpost, hsteps⟩
  · exact Or.inl ⟨v, vm₁, B, X₁.warmed, X', hpost, fun target h => hstep₁ _ fun acts => by rw [doInvoke_state]; exact hsteps.trans h⟩
  · exact Or.inr ⟨q, vm₁, B, X₁.warmed, X', hpost, hstep₁ _ fun acts => by rw [doInvoke_state]; exact hsteps⟩
theorem vx_runVN {y : MethodName} {bytes cc : ByteArray} {maxL nL mc ms n index : Nat} {ret : Option FieldType} {ws : List Cond} {rm : Room} {Pc : Array Value → State → Prop} {Qc : Array Value → State → Outcome → State → Prop} {XC : String → State → State → Prop} {free : Addr → Prop} {Ts : List Cond} {own C host : String} {b : Addr} {As rest : List Value} {g : JFrame}
    (S : CallFix p m c cc nL s args Ts own) (hM : vx_Met l y ws rm Pc Qc XC mc ms free) (cw : va_CN R s args own index y host bytes maxL ret ws rm mc ms n ∧ (Cond.instanceMethod y).before args s = true ∧ (Cond.selects C y y).before args s = true) (hp : PreV s H C b Pc As)
    (hg : g.method = m) (hn : As.length = n) (hsize : g.locals.size = nL) (hstack : g.stack = As.reverse ++ .ref b :: rest) (hW : 2 * g.monitorRoom + (rest.map fun v => v.category).sum ≤ 8) (hdg : decode cc g.pc = .ok (.invokevirtual index, 3)) (hf : cells + mc ≤ R.cells ∧ slots + ms ≤ R.slots) :
    vx_Run p l e R s m args below meth c H locs cells slots mc ms g rest (Qc (Value.ref b :: As).toArray) XC free := by
  obtain ⟨⟨⟨hrc, hrs, hfr, hlo, hws, hcw⟩, hcode, hini, hy, hlen, hl⟩, hx1, hx2⟩ := cw
  have hK : vx_Back l R p e below s args y 3 8 (PreOf R mc ms Pc) (PostOf Qc mc ms free) (vx_Post XC mc ms free) := vx_back (bytes := bytes) (maxL := maxL) (ret := ret) hM hp.1 hrc hrs hfr hlo hws hcw (fun a' U hW => word_at hW (Or.inl (by first | rfl | simp [Cond.onTables, Cond.keeps, Cond.steady])) hini)
  obtain ⟨hx, hb, hml, ho, -⟩ := S
  obtain ⟨-, ⟨cellB, hcB, hoB, hclB⟩, hPc⟩ := hp
  intro T hT X
  rcases vx_callVN X hx (C := C) (bytes := bytes) (maxL := maxL) (ret := ret) ho hl hx1 hx2 hcode hy hK (by rw [hT]; exact hcB) hoB hclB hg (hsize.trans hml.symm) (argsL := As) (rest := rest) (fun sig h => hn.trans (hlen sig h)) hstack hW (by rw [hb]; exact hdg)
    (fun vm₁ hW₁ => ⟨hf.1, hf.2, hPc (T.setVm vm₁) hT hW₁⟩) with ⟨v, vm₁, ⟨U', l2, c2, s2⟩, hW₁, X', ⟨g', mk, t, L, e1, e2, hq, h1, hL, h2, h3⟩, st⟩ | ⟨q, vm₁, ⟨U', l2, c2, s2⟩, hW₁, X', ⟨g', mk, t, L, E, ce, e1, e2, hq, hce, hcv, hcl, h1, hL, h2, h3⟩, st⟩
  · dsimp only [Pt.U, Pt.locs, Pt.cells, Pt.slots] at X' e1 e2 h1 h2 h3 st
    subst h1; subst h2; subst h3
    exact Or.inl ⟨v, (T.setVm vm₁).calling g' mk (Value.ref b :: As).toArray, t, U', L, hT, X', hL, e1, e2, hq, st⟩
  · dsimp only [Pt.U, Pt.locs, Pt.cells, Pt.slots] at X' e1 e2 h1 h2 h3 st hcl
    subst h1; subst h2; subst h3
    exact Or.inr ⟨q, (T.setVm vm₁).calling g' mk (Value.ref b :: As).toArray, t, U', L, E, ce, hT, X', hL, e1, e2, hq, hce, hcv, vx_cls hW₁ hcl, st⟩
theorem vx_runSN {y : MethodName} {bytes cc : ByteArray} {maxL nL mc ms n index : Nat} {ret : Option FieldType} {ws : List Cond} {rm : Room} {Pc : Array Value → State → Prop} {Qc : Array Value → State → Outcome → State → Prop} {XC : String → State → State → Prop} {free : Addr → Prop} {Ts : List Cond} {own host : String} {As rest : List Value} {g : JFrame}
    (S : CallFix p m c cc nL s args Ts own) (hM : vx_Met l y ws rm Pc Qc XC mc ms free) (cw : va_CN R s args own index y host bytes maxL ret ws rm mc ms n ∧ (Cond.static y).before args s = true ∧ True) (hp : PreS s H Pc As)
    (hg : g.method = m) (hn : As.length = n) (hsize : g.locals.size = nL) (hstack : g.stack = As.reverse ++ rest) (hW : 2 * g.monitorRoom + (rest.map fun v => v.category).sum ≤ 8) (hdg : decode cc g.pc = .ok (.invokestatic index, 3)) (hf : cells + mc ≤ R.cells ∧ slots + ms ≤ R.slots) :
    vx_Run p l e R s m args below meth c H locs cells slots mc ms g rest (Qc As.toArray) XC free := by
  obtain ⟨⟨⟨hrc, hrs, hfr, hlo, hws, hcw⟩, hcode, hini, hy, hlen, hl⟩, hx1, hx2⟩ := cw
  have hK : vx_Back l R p e below s args y 3 8 (PreOf R mc ms Pc) (PostOf Qc mc ms free) (vx_Post XC mc ms free) := vx_back (bytes := bytes) (maxL := maxL) (ret := ret) hM hp.1 hrc hrs hfr hlo hws hcw (fun a' U hW => word_at hW (Or.inl (by first | rfl | simp [Cond.onTables, Cond.keeps, Cond.steady])) hini)
  obtain ⟨hx, hb, hml, ho, -⟩ := S
  have hPc := hp.2
  intro T hT X
  rcases vx_callSN X hx (bytes := bytes) (maxL := maxL) (ret := ret) ho hl hx1 hini hcode hy hK hg (hsize.trans hml.symm) (argsL := As) (rest := rest) (fun sig h => hn.trans (hlen sig h)) hstack hW (by rw [hb]; exact hdg)
    (fun vm₁ hW₁ => ⟨hf.1, hf.2, hPc (T.setVm vm₁) hT hW₁⟩) with ⟨v, vm₁, ⟨U', l2, c2, s2⟩, hW₁, X', ⟨g', mk, t, L, e1, e2, hq, h1, hL, h2, h3⟩, st⟩ | ⟨q, vm₁, ⟨U', l2, c2, s2⟩, hW₁, X', ⟨g', mk, t, L, E, ce, e1, e2, hq, hce, hcv, hcl, h1, hL, h2, h3⟩, st⟩
  · dsimp only [Pt.U, Pt.locs, Pt.cells, Pt.slots] at X' e1 e2 h1 h2 h3 st
    subst h1; subst h2; subst h3
    exact Or.inl ⟨v, (T.setVm vm₁).calling g' mk As.toArray, t, U', L, hT, X', hL, e1, e2, hq, st⟩
  · dsimp only [Pt.U, Pt.locs, Pt.cells, Pt.slots] at X' e1 e2 h1 h2 h3 st hcl
    subst h1; subst h2; subst h3
    exact Or.inr ⟨q, (T.setVm vm₁).calling g' mk As.toArray, t, U', L, E, ce, hT, X', hL, e1, e2, hq, hce, hcv, vx_cls hW₁ hcl, st⟩
end
/-! ===== END ===== -/
end
section
/-! ===== BEGIN printed: names, fields, word lists, decode rows ===== -/
def RX0 : String := "Timesheets$Employee"
def TX0 : u_T := fun k => match k with
  | 0 => ("Timesheets$Employee", "wage", "I", false)
  | 1 => ("Timesheets$Employee", "weeksClosed", "I", false)
  | 2 => ("Timesheets$Employee", "earnings", "J", false)
  | 3 => ("Timesheets$Employee", "punches", "LTimesheets$Table;", true)
  | 4 => ("Timesheets$Employee", "entries", "LTimesheets$Table;", true)
  | _ => ("Timesheets$Employee", "breaks", "LTimesheets$Table;", true)
def tyX0 : Nat → FieldType := fun k => match k with
  | 0 => .int
  | 1 => .int
  | 2 => .long
  | 3 => .object "Timesheets$Table"
  | 4 => .object "Timesheets$Table"
  | _ => .object "Timesheets$Table"
abbrev wsX00 : List Cond := u_ws RX0 TX0 6
theorem nmX0 : ∀ a, a < 6 → ∀ b, b < 6 → a ≠ b → (TX0 a).2.1 ≠ (TX0 b).2.1 := by decide +kernel
theorem tyX0_ok : ∀ k, k < 6 → parseFieldDescriptor (TX0 k).2.2.1 = some (tyX0 k) := by decide +kernel
abbrev cX0_init : ByteArray := prog_2_method_1_code
def yX0_init : MethodName := ⟨RX0, "<init>", "(I)V"⟩
abbrev cX0_beginNextWeek : ByteArray := prog_2_method_2_code
def yX0_beginNextWeek : MethodName := ⟨RX0, "beginNextWeek", "(I)V"⟩
def RX1 : String := "Timesheets$Payroll"
def TX1 : u_T := fun k => match k with
  | 0 => ("Timesheets$Payroll", "timeline", "LTimesheets$Timeline;", true)
  | 1 => ("Timesheets$Payroll", "paid", "LTimesheets$Table;", true)
  | _ => ("Timesheets$Payroll", "parts", "LTimesheets$Table;", true)
def tyX1 : Nat → FieldType := fun k => match k with
  | 0 => .object "Timesheets$Timeline"
  | 1 => .object "Timesheets$Table"
  | _ => .object "Timesheets$Table"
abbrev wsX10 : List Cond := u_ws RX1 TX1 3
theorem nmX1 : ∀ a, a < 3 → ∀ b, b < 3 → a ≠ b → (TX1 a).2.1 ≠ (TX1 b).2.1 := by decide +kernel
theorem tyX1_ok : ∀ k, k < 3 → parseFieldDescriptor (TX1 k).2.2.1 = some (tyX1 k) := by decide +kernel
abbrev cX1_init : ByteArray := prog_3_method_1_code
def yX1_init : MethodName := ⟨RX1, "<init>", "()V"⟩
abbrev cX1_read : ByteArray := prog_3_method_2_code
def yX1_read : MethodName := ⟨RX1, "read", "(LTimesheets$Employee;)V"⟩
abbrev cX1_takeOffAutomaticBreaks : ByteArray := prog_3_method_3_code
def yX1_takeOffAutomaticBreaks : MethodName := ⟨RX1, "takeOffAutomaticBreaks", "(LTimesheets$Table;)V"⟩
abbrev cX1_isFull : ByteArray := prog_3_method_4_code
def yX1_isFull : MethodName := ⟨RX1, "isFull", "()Z"⟩
abbrev cX1_addPartsOfDay : ByteArray := prog_3_method_5_code
def yX1_addPartsOfDay : MethodName := ⟨RX1, "addPartsOfDay", "(IIZ)V"⟩
abbrev cX1_addParts : ByteArray := prog_3_method_6_code
def yX1_addParts : MethodName := ⟨RX1, "addParts", "(IIIIZ)V"⟩
abbrev cX1_untilLimit : ByteArray := prog_3_method_7_code
def yX1_untilLimit : MethodName := ⟨RX1, "untilLimit", "(II)I"⟩
abbrev cX1_categoryFor : ByteArray := prog_3_method_8_code
def yX1_categoryFor : MethodName := ⟨RX1, "categoryFor", "(IIZ)I"⟩
abbrev cX1_minutesOf : ByteArray := prog_3_method_10_code
def yX1_minutesOf : MethodName := ⟨RX1, "minutesOf", "(II)I"⟩
abbrev cX1_quartersOf : ByteArray := prog_3_method_11_code
def yX1_quartersOf : MethodName := ⟨RX1, "quartersOf", "(II)I"⟩
abbrev cX1_quartersOfWeek : ByteArray := prog_3_method_12_code
def yX1_quartersOfWeek : MethodName := ⟨RX1, "quartersOfWeek", "(I)I"⟩
abbrev cX1_basicPay : ByteArray := prog_3_method_13_code
def yX1_basicPay : MethodName := ⟨RX1, "basicPay", "(I)I"⟩
def RX2 : String := "Timesheets$Premiums"
def TX2 : u_T := fun k => match k with
  | _ => ("Timesheets$Premiums", "rows", "LTimesheets$Table;", true)
def tyX2 : Nat → FieldType := fun k => match k with
  | _ => .object "Timesheets$Table"
abbrev wsX20 : List Cond := u_ws RX2 TX2 1
theorem nmX2 : ∀ a, a < 1 → ∀ b, b < 1 → a ≠ b → (TX2 a).2.1 ≠ (TX2 b).2.1 := by decide +kernel
theorem tyX2_ok : ∀ k, k < 1 → parseFieldDescriptor (TX2 k).2.2.1 = some (tyX2 k) := by decide +kernel
abbrev cX2_init : ByteArray := prog_4_method_1_code
def yX2_init : MethodName := ⟨RX2, "<init>", "()V"⟩
abbrev cX2_add : ByteArray := prog_4_method_2_code
def yX2_add : MethodName := ⟨RX2, "add", "(IIII)I"⟩
abbrev cX2_payFor : ByteArray := prog_4_method_3_code
def yX2_payFor : MethodName := ⟨RX2, "payFor", "(LTimesheets$Table;)I"⟩
abbrev cX2_sumOver : ByteArray := prog_4_method_4_code
def yX2_sumOver : MethodName := ⟨RX2, "sumOver", "(II)I"⟩
abbrev cX2_nextChange : ByteArray := prog_4_method_5_code
def yX2_nextChange : MethodName := ⟨RX2, "nextChange", "(I)I"⟩
abbrev cX2_greatestRate : ByteArray := prog_4_method_6_code
def yX2_greatestRate : MethodName := ⟨RX2, "greatestRate", "(II)I"⟩
abbrev cX2_isBetween : ByteArray := prog_4_method_7_code
def yX2_isBetween : MethodName := ⟨RX2, "isBetween", "(III)Z"⟩
def RX3 : String := "Timesheets$Shifts"
def TX3 : u_T := fun k => match k with
  | 0 => ("Timesheets$Shifts", "spans", "LTimesheets$Table;", true)
  | _ => ("Timesheets$Shifts", "repaired", "I", false)
def tyX3 : Nat → FieldType := fun k => match k with
  | 0 => .object "Timesheets$Table"
  | _ => .int
abbrev wsX30 : List Cond := u_ws RX3 TX3 2
theorem nmX3 : ∀ a, a < 2 → ∀ b, b < 2 → a ≠ b → (TX3 a).2.1 ≠ (TX3 b).2.1 := by decide +kernel
theorem tyX3_ok : ∀ k, k < 2 → parseFieldDescriptor (TX3 k).2.2.1 = some (tyX3 k) := by decide +kernel
abbrev cX3_init : ByteArray := prog_5_method_1_code
def yX3_init : MethodName := ⟨RX3, "<init>", "()V"⟩
abbrev cX3_read : ByteArray := prog_5_method_2_code
def yX3_read : MethodName := ⟨RX3, "read", "(LTimesheets$Table;)V"⟩
abbrev cX3_addFromIn : ByteArray := prog_5_method_3_code
def yX3_addFromIn : MethodName := ⟨RX3, "addFromIn", "(LTimesheets$Table;I)V"⟩
abbrev cX3_addFromLoneOut : ByteArray := prog_5_method_4_code
def yX3_addFromLoneOut : MethodName := ⟨RX3, "addFromLoneOut", "(LTimesheets$Table;I)V"⟩
abbrev cX3_isIn : ByteArray := prog_5_method_5_code
def yX3_isIn : MethodName := ⟨RX3, "isIn", "(LTimesheets$Table;I)Z"⟩
def RX4 : String := "Timesheets$Table"
def TX4 : u_T := fun k => match k with
  | 0 => ("Timesheets$Table", "width", "I", true)
  | 1 => ("Timesheets$Table", "cells", "[I", true)
  | _ => ("Timesheets$Table", "rows", "I", false)
def tyX4 : Nat → FieldType := fun k => match k with
  | 0 => .int
  | 1 => .array .int
  | _ => .int
abbrev wsX40 : List Cond := u_ws RX4 TX4 3
theorem nmX4 : ∀ a, a < 3 → ∀ b, b < 3 → a ≠ b → (TX4 a).2.1 ≠ (TX4 b).2.1 := by decide +kernel
theorem tyX4_ok : ∀ k, k < 3 → parseFieldDescriptor (TX4 k).2.2.1 = some (tyX4 k) := by decide +kernel
abbrev cX4_init : ByteArray := prog_6_method_1_code
def yX4_init : MethodName := ⟨RX4, "<init>", "(II)V"⟩
abbrev cX4_size : ByteArray := prog_6_method_2_code
def yX4_size : MethodName := ⟨RX4, "size", "()I"⟩
abbrev cX4_get : ByteArray := prog_6_method_3_code
def yX4_get : MethodName := ⟨RX4, "get", "(II)I"⟩
abbrev cX4_set : ByteArray := prog_6_method_4_code
def yX4_set : MethodName := ⟨RX4, "set", "(III)V"⟩
abbrev cX4_insert : ByteArray := prog_6_method_5_code
def yX4_insert : MethodName := ⟨RX4, "insert", "(I)V"⟩
abbrev cX4_addSpan : ByteArray := prog_6_method_7_code
def yX4_addSpan : MethodName := ⟨RX4, "addSpan", "(II)V"⟩
abbrev cX4_clear : ByteArray := prog_6_method_8_code
def yX4_clear : MethodName := ⟨RX4, "clear", "()V"⟩
def RX5 : String := "Timesheets$Timeline"
def TX5 : u_T := fun k => match k with
  | 0 => ("Timesheets$Timeline", "shiftList", "LTimesheets$Shifts;", true)
  | 1 => ("Timesheets$Timeline", "events", "LTimesheets$Table;", true)
  | 2 => ("Timesheets$Timeline", "stretchList", "LTimesheets$Table;", true)
  | _ => ("Timesheets$Timeline", "coveredTwice", "I", false)
def tyX5 : Nat → FieldType := fun k => match k with
  | 0 => .object "Timesheets$Shifts"
  | 1 => .object "Timesheets$Table"
  | 2 => .object "Timesheets$Table"
  | _ => .int
abbrev wsX50 : List Cond := u_ws RX5 TX5 4
theorem nmX5 : ∀ a, a < 4 → ∀ b, b < 4 → a ≠ b → (TX5 a).2.1 ≠ (TX5 b).2.1 := by decide +kernel
theorem tyX5_ok : ∀ k, k < 4 → parseFieldDescriptor (TX5 k).2.2.1 = some (tyX5 k) := by decide +kernel
abbrev cX5_init : ByteArray := prog_7_method_1_code
def yX5_init : MethodName := ⟨RX5, "<init>", "()V"⟩
abbrev cX5_read : ByteArray := prog_7_method_2_code
def yX5_read : MethodName := ⟨RX5, "read", "(LTimesheets$Employee;)V"⟩
abbrev cX5_addEvents : ByteArray := prog_7_method_3_code
def yX5_addEvents : MethodName := ⟨RX5, "addEvents", "(LTimesheets$Table;II)V"⟩
abbrev cX5_addEvent : ByteArray := prog_7_method_4_code
def yX5_addEvent : MethodName := ⟨RX5, "addEvent", "(III)V"⟩
abbrev cX5_goThroughEvents : ByteArray := prog_7_method_5_code
def yX5_goThroughEvents : MethodName := ⟨RX5, "goThroughEvents", "()V"⟩
abbrev cX5_addWorked : ByteArray := prog_7_method_6_code
def yX5_addWorked : MethodName := ⟨RX5, "addWorked", "(II)V"⟩
def RX6 : String := "Timesheets"
def TX6 : u_T := fun k => match k with
  | 0 => ("Timesheets", "staff", "[LTimesheets$Employee;", true)
  | 1 => ("Timesheets", "hired", "I", false)
  | 2 => ("Timesheets", "premiums", "LTimesheets$Premiums;", true)
  | 3 => ("Timesheets", "payroll", "LTimesheets$Payroll;", true)
  | 4 => ("Timesheets", "timeline", "LTimesheets$Timeline;", true)
  | _ => ("Timesheets", "shiftList", "LTimesheets$Shifts;", true)
def tyX6 : Nat → FieldType := fun k => match k with
  | 0 => .array (.object "Timesheets$Employee")
  | 1 => .int
  | 2 => .object "Timesheets$Premiums"
  | 3 => .object "Timesheets$Payroll"
  | 4 => .object "Timesheets$Timeline"
  | _ => .object "Timesheets$Shifts"
abbrev wsX60 : List Cond := u_ws RX6 TX6 6
theorem nmX6 : ∀ a, a < 6 → ∀ b, b < 6 → a ≠ b → (TX6 a).2.1 ≠ (TX6 b).2.1 := by decide +kernel
theorem tyX6_ok : ∀ k, k < 6 → parseFieldDescriptor (TX6 k).2.2.1 = some (tyX6 k) := by decide +kernel
abbrev cX6_init : ByteArray := prog_1_method_1_code
def yX6_init : MethodName := ⟨RX6, "<init>", "()V"⟩
abbrev cX6_hire : ByteArray := prog_1_method_2_code
def yX6_hire : MethodName := ⟨RX6, "hire", "(I)I"⟩
abbrev cX6_enter : ByteArray := prog_1_method_6_code
def yX6_enter : MethodName := ⟨RX6, "enter", "(III)I"⟩
abbrev cX6_enterBreak : ByteArray := prog_1_method_8_code
def yX6_enterBreak : MethodName := ⟨RX6, "enterBreak", "(III)I"⟩
abbrev cX6_addPremium : ByteArray := prog_1_method_10_code
def yX6_addPremium : MethodName := ⟨RX6, "addPremium", "(IIII)I"⟩
abbrev cX6_closeWeek : ByteArray := prog_1_method_12_code
def yX6_closeWeek : MethodName := ⟨RX6, "closeWeek", "(I)I"⟩
abbrev cX6_closedWeeks : ByteArray := prog_1_method_14_code
def yX6_closedWeeks : MethodName := ⟨RX6, "closedWeeks", "(I)I"⟩
abbrev cX6_earned : ByteArray := prog_1_method_15_code
def yX6_earned : MethodName := ⟨RX6, "earned", "(I)J"⟩
abbrev cX6_shifts : ByteArray := prog_1_method_16_code
def yX6_shifts : MethodName := ⟨RX6, "shifts", "(I)I"⟩
abbrev cX6_repairedShifts : ByteArray := prog_1_method_19_code
def yX6_repairedShifts : MethodName := ⟨RX6, "repairedShifts", "(I)I"⟩
abbrev cX6_overlap : ByteArray := prog_1_method_21_code
def yX6_overlap : MethodName := ⟨RX6, "overlap", "(I)I"⟩
abbrev cX6_workedOn : ByteArray := prog_1_method_22_code
def yX6_workedOn : MethodName := ⟨RX6, "workedOn", "(II)I"⟩
abbrev cX6_stretches : ByteArray := prog_1_method_23_code
def yX6_stretches : MethodName := ⟨RX6, "stretches", "(I)I"⟩
abbrev cX6_longestStretch : ByteArray := prog_1_method_24_code
def yX6_longestStretch : MethodName := ⟨RX6, "longestStretch", "(I)I"⟩
abbrev cX6_minutes : ByteArray := prog_1_method_26_code
def yX6_minutes : MethodName := ⟨RX6, "minutes", "(III)I"⟩
abbrev cX6_quarters : ByteArray := prog_1_method_27_code
def yX6_quarters : MethodName := ⟨RX6, "quarters", "(III)I"⟩
abbrev cX6_premiumPay : ByteArray := prog_1_method_28_code
def yX6_premiumPay : MethodName := ⟨RX6, "premiumPay", "(I)I"⟩
abbrev cX6_pay : ByteArray := prog_1_method_29_code
def yX6_pay : MethodName := ⟨RX6, "pay", "(I)I"⟩
abbrev cX6_find : ByteArray := prog_1_method_30_code
def yX6_find : MethodName := ⟨RX6, "find", "(I)LTimesheets$Employee;"⟩
abbrev cX6_requireWithin : ByteArray := prog_1_method_31_code
def yX6_requireWithin : MethodName := ⟨RX6, "requireWithin", "(III)V"⟩
abbrev cX6_requireRoom : ByteArray := prog_1_method_32_code
def yX6_requireRoom : MethodName := ⟨RX6, "requireRoom", "(LTimesheets$Table;I)V"⟩
abbrev cX6_addByHand : ByteArray := prog_1_method_34_code
def yX6_addByHand : MethodName := ⟨RX6, "addByHand", "(LTimesheets$Table;III)I"⟩
abbrev cX6_minutesOnDay : ByteArray := prog_1_method_39_code
def yX6_minutesOnDay : MethodName := ⟨RX6, "minutesOnDay", "(LTimesheets$Table;I)I"⟩
abbrev cX6_longest : ByteArray := prog_1_method_40_code
def yX6_longest : MethodName := ⟨RX6, "longest", "(LTimesheets$Table;)I"⟩
def RX7 : String := "TimesheetsModel"
def TX7 : u_T := fun k => match k with
  | _ => ("", "", "", false)
def tyX7 : Nat → FieldType := fun k => match k with
  | _ => .int
abbrev wsX70 : List Cond := u_ws RX7 TX7 0
theorem nmX7 : ∀ a, a < 0 → ∀ b, b < 0 → a ≠ b → (TX7 a).2.1 ≠ (TX7 b).2.1 := by decide +kernel
theorem tyX7_ok : ∀ k, k < 0 → parseFieldDescriptor (TX7 k).2.2.1 = some (tyX7 k) := by decide +kernel
def RJx145de : String := "java/io/Serializable"
def TJx145de : u_T := fun k => match k with
  | _ => ("", "", "", false)
def tyJx145de : Nat → FieldType := fun k => match k with
  | _ => .int
abbrev wsJx145de0 : List Cond := u_ws RJx145de TJx145de 0
theorem nmJx145de : ∀ a, a < 0 → ∀ b, b < 0 → a ≠ b → (TJx145de a).2.1 ≠ (TJx145de b).2.1 := by decide +kernel
theorem tyJx145de_ok : ∀ k, k < 0 → parseFieldDescriptor (TJx145de k).2.2.1 = some (tyJx145de k) := by decide +kernel
def RJ9 : String := "java/lang/Math"
def TJ9 : u_T := fun k => match k with
  | _ => ("", "", "", false)
def tyJ9 : Nat → FieldType := fun k => match k with
  | _ => .int
abbrev wsJ90 : List Cond := u_ws RJ9 TJ9 0
theorem nmJ9 : ∀ a, a < 0 → ∀ b, b < 0 → a ≠ b → (TJ9 a).2.1 ≠ (TJ9 b).2.1 := by decide +kernel
theorem tyJ9_ok : ∀ k, k < 0 → parseFieldDescriptor (TJ9 k).2.2.1 = some (tyJ9 k) := by decide +kernel
abbrev cJ9_max_7cf53 : ByteArray := prog_14_method_65_code
def yJ9_max_7cf53 : MethodName := ⟨RJ9, "max", "(II)I"⟩
abbrev cJ9_min_7cf53 : ByteArray := prog_14_method_69_code
def yJ9_min_7cf53 : MethodName := ⟨RJ9, "min", "(II)I"⟩
def RJ0 : String := "java/lang/String"
def TJ0 : u_T := fun k => match k with
  | _ => ("", "", "", false)
def tyJ0 : Nat → FieldType := fun k => match k with
  | _ => .int
abbrev wsJ00 : List Cond := u_ws RJ0 TJ0 0
theorem nmJ0 : ∀ a, a < 0 → ∀ b, b < 0 → a ≠ b → (TJ0 a).2.1 ≠ (TJ0 b).2.1 := by decide +kernel
theorem tyJ0_ok : ∀ k, k < 0 → parseFieldDescriptor (TJ0 k).2.2.1 = some (tyJ0 k) := by decide +kernel
def RL : String := "TimesheetsLaw"
abbrev cL_cell : ByteArray := method_2_code
def yL_cell : MethodName := ⟨RL, "cell", "([II)I"⟩
abbrev cL_low : ByteArray := method_3_code
def yL_low : MethodName := ⟨RL, "low", "(II)I"⟩
abbrev cL_reads : ByteArray := method_4_code
def yL_reads : MethodName := ⟨RL, "reads", "(LTimesheets;[I[I)V"⟩
abbrev cL_weekOf : ByteArray := method_5_code
def yL_weekOf : MethodName := ⟨RL, "weekOf", "([I[II)I"⟩
abbrev cL_isPaid : ByteArray := method_6_code
def yL_isPaid : MethodName := ⟨RL, "isPaid", "(LTimesheets;[I[IIZ)Z"⟩
abbrev cL_isEmpty : ByteArray := method_7_code
def yL_isEmpty : MethodName := ⟨RL, "isEmpty", "(LTimesheets;I)Z"⟩
abbrev cL_law : ByteArray := code
def yL_law : MethodName := ⟨RL, "law", "([I)Z"⟩
def wsJ9_max_7cf53 : List Cond := .code yJ9_max_7cf53 cJ9_max_7cf53 2 (some .int) :: ([])
def wsJ9_min_7cf53 : List Cond := .code yJ9_min_7cf53 cJ9_min_7cf53 2 (some .int) :: ([])
theorem inJx145de : ∀ w ∈ wsJx145de0, w ∈ lw_tbl := by decide +kernel
abbrev vwCl : List vw_C := [(RX0, TX0, 6), (RX1, TX1, 3), (RX2, TX2, 1), (RX3, TX3, 2), (RX4, TX4, 3), (RX5, TX5, 4), (RX6, TX6, 6)]
/-! ===== END printed: names ===== -/
end
section
/-! the words of the tables that are good, and each of them by name -/
def BG : List Cond := lw_tbl.filter goodWord
theorem BG_good : ∀ w ∈ BG, (w.onTables && w.keeps) = true ∨ ∃ ty, w = .arrayClass ty := fun w h => good_of_word (List.mem_filter.mp h).2
theorem BG_in : ∀ w ∈ BG, w ∈ lw_tbl := fun w h => (List.mem_filter.mp h).1
theorem bg_0 {w : Cond} (h : w ∈ k2_sels lw_privs) (g : goodWord w = true) : w ∈ BG := List.mem_filter.mpr ⟨List.mem_append_left _ h, g⟩
theorem bg_1 {w : Cond} (h : w ∈ tables_1_1) (g : goodWord w = true) : w ∈ BG := List.mem_filter.mpr ⟨List.mem_append_right _ (List.mem_append_left _ h), g⟩
theorem bg_2 {w : Cond} (h : w ∈ tables_1_2) (g : goodWord w = true) : w ∈ BG := List.mem_filter.mpr ⟨List.mem_append_right _ (List.mem_append_right _ (List.mem_append_left _ h)), g⟩
theorem bg_3 {w : Cond} (h : w ∈ tables_1_3) (g : goodWord w = true) : w ∈ BG := List.mem_filter.mpr ⟨List.mem_append_right _ (List.mem_append_right _ (List.mem_append_right _ h)), g⟩
theorem kw_0 : Cond.classLink RL 9 RX6 ∈ BG := bg_1 (List.mem_of_getElem? (l := tables_1_1) (i := 15) rfl) rfl
theorem kw_1 : Cond.instantiable RX6 6 ∈ BG := bg_1 (List.mem_of_getElem? (l := tables_1_1) (i := 16) rfl) rfl
theorem kw_2 : Cond.initialized RX6 ∈ BG := bg_1 (List.mem_of_getElem? (l := tables_1_1) (i := 1) rfl) rfl
theorem kw_3 : Cond.arrayClass .int ∈ BG := bg_1 (List.mem_of_getElem? (l := tables_1_1) (i := 47) rfl) rfl
theorem kw_4 : Cond.methodLink RL 53 yX6_init ∈ BG := bg_1 (List.mem_of_getElem? (l := tables_1_1) (i := 17) rfl) rfl
theorem kw_5 : Cond.instanceMethod yX6_init ∈ BG := bg_1 (List.mem_of_getElem? (l := tables_1_1) (i := 18) rfl) rfl
theorem kw_6 : Cond.code yX6_init cX6_init 1 none ∈ BG := bg_1 (List.mem_of_getElem? (l := tables_1_1) (i := 19) rfl) rfl
theorem kw_7 : Cond.methodLink RX6 3 objectInit ∈ BG := bg_1 (List.mem_of_getElem? (l := tables_1_1) (i := 20) rfl) rfl
theorem kw_8 : Cond.instanceMethod objectInit ∈ BG := bg_1 (List.mem_of_getElem? (l := tables_1_1) (i := 21) rfl) rfl
theorem kw_9 : Cond.code objectInit ⟨#[0xb1]⟩ 1 none ∈ BG := bg_1 (List.mem_of_getElem? (l := tables_1_1) (i := 22) rfl) rfl
theorem kw_10 : Cond.classLink RX6 9 RX0 ∈ BG := bg_1 (List.mem_of_getElem? (l := tables_1_1) (i := 23) rfl) rfl
theorem kw_11 : Cond.fieldLink RX6 11 "Timesheets" "staff" "[LTimesheets$Employee;" ∈ BG := bg_1 (List.mem_of_getElem? (l := tables_1_1) (i := 116) rfl) rfl
theorem kw_12 : Cond.fieldLink RX6 15 "Timesheets" "hired" "I" ∈ BG := bg_1 (List.mem_of_getElem? (l := tables_1_1) (i := 117) rfl) rfl
theorem kw_13 : Cond.classLink RX6 19 RX2 ∈ BG := bg_1 (List.mem_of_getElem? (l := tables_1_1) (i := 25) rfl) rfl
theorem kw_14 : Cond.instantiable RX2 1 ∈ BG := bg_1 (List.mem_of_getElem? (l := tables_1_1) (i := 26) rfl) rfl
theorem kw_15 : Cond.initialized RX2 ∈ BG := bg_1 (List.mem_of_getElem? (l := tables_1_1) (i := 2) rfl) rfl
theorem kw_16 : Cond.fieldLink RX6 22 "Timesheets" "premiums" "LTimesheets$Premiums;" ∈ BG := bg_1 (List.mem_of_getElem? (l := tables_1_1) (i := 118) rfl) rfl
theorem kw_17 : Cond.classLink RX6 26 RX1 ∈ BG := bg_1 (List.mem_of_getElem? (l := tables_1_1) (i := 53) rfl) rfl
theorem kw_18 : Cond.instantiable RX1 3 ∈ BG := bg_1 (List.mem_of_getElem? (l := tables_1_1) (i := 54) rfl) rfl
theorem kw_19 : Cond.initialized RX1 ∈ BG := bg_1 (List.mem_of_getElem? (l := tables_1_1) (i := 4) rfl) rfl
theorem kw_20 : Cond.fieldLink RX6 29 "Timesheets" "payroll" "LTimesheets$Payroll;" ∈ BG := bg_1 (List.mem_of_getElem? (l := tables_1_1) (i := 119) rfl) rfl
theorem kw_21 : Cond.fieldLink RX6 37 "Timesheets" "timeline" "LTimesheets$Timeline;" ∈ BG := bg_1 (List.mem_of_getElem? (l := tables_1_1) (i := 120) rfl) rfl
theorem kw_22 : Cond.fieldLink RX6 44 "Timesheets" "shiftList" "LTimesheets$Shifts;" ∈ BG := bg_1 (List.mem_of_getElem? (l := tables_1_1) (i := 121) rfl) rfl
theorem kw_23 : Cond.methodLink RX6 21 yX2_init ∈ BG := bg_1 (List.mem_of_getElem? (l := tables_1_1) (i := 27) rfl) rfl
theorem kw_24 : Cond.instanceMethod yX2_init ∈ BG := bg_1 (List.mem_of_getElem? (l := tables_1_1) (i := 28) rfl) rfl
theorem kw_25 : Cond.code yX2_init cX2_init 1 none ∈ BG := bg_1 (List.mem_of_getElem? (l := tables_1_1) (i := 29) rfl) rfl
theorem kw_26 : Cond.methodLink RX2 3 objectInit ∈ BG := bg_1 (List.mem_of_getElem? (l := tables_1_1) (i := 30) rfl) rfl
theorem kw_27 : Cond.classLink RX2 9 RX4 ∈ BG := bg_1 (List.mem_of_getElem? (l := tables_1_1) (i := 31) rfl) rfl
theorem kw_28 : Cond.instantiable RX4 3 ∈ BG := bg_1 (List.mem_of_getElem? (l := tables_1_1) (i := 32) rfl) rfl
theorem kw_29 : Cond.initialized RX4 ∈ BG := bg_1 (List.mem_of_getElem? (l := tables_1_1) (i := 3) rfl) rfl
theorem kw_30 : Cond.fieldLink RX2 14 "Timesheets$Premiums" "rows" "LTimesheets$Table;" ∈ BG := bg_1 (List.mem_of_getElem? (l := tables_1_1) (i := 48) rfl) rfl
theorem kw_31 : Cond.methodLink RX2 11 yX4_init ∈ BG := bg_1 (List.mem_of_getElem? (l := tables_1_1) (i := 33) rfl) rfl
theorem kw_32 : Cond.instanceMethod yX4_init ∈ BG := bg_1 (List.mem_of_getElem? (l := tables_1_1) (i := 34) rfl) rfl
theorem kw_33 : Cond.code yX4_init cX4_init 3 none ∈ BG := bg_1 (List.mem_of_getElem? (l := tables_1_1) (i := 35) rfl) rfl
theorem kw_34 : Cond.methodLink RX4 3 objectInit ∈ BG := bg_1 (List.mem_of_getElem? (l := tables_1_1) (i := 36) rfl) rfl
theorem kw_35 : Cond.fieldLink RX4 9 "Timesheets$Table" "width" "I" ∈ BG := bg_1 (List.mem_of_getElem? (l := tables_1_1) (i := 37) rfl) rfl
theorem kw_36 : Cond.fieldLink RX4 15 "Timesheets$Table" "cells" "[I" ∈ BG := bg_1 (List.mem_of_getElem? (l := tables_1_1) (i := 38) rfl) rfl
theorem kw_37 : Cond.fieldLink RX4 19 "Timesheets$Table" "rows" "I" ∈ BG := bg_1 (List.mem_of_getElem? (l := tables_1_1) (i := 39) rfl) rfl
theorem kw_38 : Cond.methodLink RX6 28 yX1_init ∈ BG := bg_1 (List.mem_of_getElem? (l := tables_1_1) (i := 55) rfl) rfl
theorem kw_39 : Cond.instanceMethod yX1_init ∈ BG := bg_1 (List.mem_of_getElem? (l := tables_1_1) (i := 56) rfl) rfl
theorem kw_40 : Cond.code yX1_init cX1_init 1 none ∈ BG := bg_1 (List.mem_of_getElem? (l := tables_1_1) (i := 57) rfl) rfl
theorem kw_41 : Cond.methodLink RX1 3 objectInit ∈ BG := bg_1 (List.mem_of_getElem? (l := tables_1_1) (i := 58) rfl) rfl
theorem kw_42 : Cond.classLink RX1 9 RX5 ∈ BG := bg_1 (List.mem_of_getElem? (l := tables_1_1) (i := 59) rfl) rfl
theorem kw_43 : Cond.instantiable RX5 4 ∈ BG := bg_1 (List.mem_of_getElem? (l := tables_1_1) (i := 60) rfl) rfl
theorem kw_44 : Cond.initialized RX5 ∈ BG := bg_1 (List.mem_of_getElem? (l := tables_1_1) (i := 5) rfl) rfl
theorem kw_45 : Cond.fieldLink RX1 12 "Timesheets$Payroll" "timeline" "LTimesheets$Timeline;" ∈ BG := bg_1 (List.mem_of_getElem? (l := tables_1_1) (i := 104) rfl) rfl
theorem kw_46 : Cond.classLink RX1 18 RX4 ∈ BG := bg_1 (List.mem_of_getElem? (l := tables_1_1) (i := 102) rfl) rfl
theorem kw_47 : Cond.fieldLink RX1 23 "Timesheets$Payroll" "paid" "LTimesheets$Table;" ∈ BG := bg_1 (List.mem_of_getElem? (l := tables_1_1) (i := 106) rfl) rfl
theorem kw_48 : Cond.fieldLink RX1 27 "Timesheets$Payroll" "parts" "LTimesheets$Table;" ∈ BG := bg_1 (List.mem_of_getElem? (l := tables_1_1) (i := 107) rfl) rfl
theorem kw_49 : Cond.methodLink RX1 11 yX5_init ∈ BG := bg_1 (List.mem_of_getElem? (l := tables_1_1) (i := 61) rfl) rfl
theorem kw_50 : Cond.instanceMethod yX5_init ∈ BG := bg_1 (List.mem_of_getElem? (l := tables_1_1) (i := 62) rfl) rfl
theorem kw_51 : Cond.code yX5_init cX5_init 1 none ∈ BG := bg_1 (List.mem_of_getElem? (l := tables_1_1) (i := 63) rfl) rfl
theorem kw_52 : Cond.methodLink RX5 3 objectInit ∈ BG := bg_1 (List.mem_of_getElem? (l := tables_1_1) (i := 64) rfl) rfl
theorem kw_53 : Cond.classLink RX5 9 RX3 ∈ BG := bg_1 (List.mem_of_getElem? (l := tables_1_1) (i := 65) rfl) rfl
theorem kw_54 : Cond.instantiable RX3 2 ∈ BG := bg_1 (List.mem_of_getElem? (l := tables_1_1) (i := 66) rfl) rfl
theorem kw_55 : Cond.initialized RX3 ∈ BG := bg_1 (List.mem_of_getElem? (l := tables_1_1) (i := 6) rfl) rfl
theorem kw_56 : Cond.fieldLink RX5 12 "Timesheets$Timeline" "shiftList" "LTimesheets$Shifts;" ∈ BG := bg_1 (List.mem_of_getElem? (l := tables_1_1) (i := 85) rfl) rfl
theorem kw_57 : Cond.classLink RX5 18 RX4 ∈ BG := bg_1 (List.mem_of_getElem? (l := tables_1_1) (i := 83) rfl) rfl
theorem kw_58 : Cond.fieldLink RX5 23 "Timesheets$Timeline" "events" "LTimesheets$Table;" ∈ BG := bg_1 (List.mem_of_getElem? (l := tables_1_1) (i := 87) rfl) rfl
theorem kw_59 : Cond.fieldLink RX5 27 "Timesheets$Timeline" "stretchList" "LTimesheets$Table;" ∈ BG := bg_1 (List.mem_of_getElem? (l := tables_1_1) (i := 88) rfl) rfl
theorem kw_60 : Cond.fieldLink RX5 30 "Timesheets$Timeline" "coveredTwice" "I" ∈ BG := bg_1 (List.mem_of_getElem? (l := tables_1_1) (i := 91) rfl) rfl
theorem kw_61 : Cond.methodLink RX5 11 yX3_init ∈ BG := bg_1 (List.mem_of_getElem? (l := tables_1_1) (i := 67) rfl) rfl
theorem kw_62 : Cond.instanceMethod yX3_init ∈ BG := bg_1 (List.mem_of_getElem? (l := tables_1_1) (i := 68) rfl) rfl
theorem kw_63 : Cond.code yX3_init cX3_init 1 none ∈ BG := bg_1 (List.mem_of_getElem? (l := tables_1_1) (i := 69) rfl) rfl
theorem kw_64 : Cond.methodLink RX3 3 objectInit ∈ BG := bg_1 (List.mem_of_getElem? (l := tables_1_1) (i := 70) rfl) rfl
theorem kw_65 : Cond.classLink RX3 9 RX4 ∈ BG := bg_1 (List.mem_of_getElem? (l := tables_1_1) (i := 71) rfl) rfl
theorem kw_66 : Cond.fieldLink RX3 14 "Timesheets$Shifts" "spans" "LTimesheets$Table;" ∈ BG := bg_1 (List.mem_of_getElem? (l := tables_1_1) (i := 73) rfl) rfl
theorem kw_67 : Cond.fieldLink RX3 20 "Timesheets$Shifts" "repaired" "I" ∈ BG := bg_1 (List.mem_of_getElem? (l := tables_1_1) (i := 76) rfl) rfl
theorem kw_68 : Cond.methodLink RX3 11 yX4_init ∈ BG := bg_1 (List.mem_of_getElem? (l := tables_1_1) (i := 72) rfl) rfl
theorem kw_69 : Cond.methodLink RX5 20 yX4_init ∈ BG := bg_1 (List.mem_of_getElem? (l := tables_1_1) (i := 84) rfl) rfl
theorem kw_70 : Cond.methodLink RX1 20 yX4_init ∈ BG := bg_1 (List.mem_of_getElem? (l := tables_1_1) (i := 103) rfl) rfl
theorem kw_71 : Cond.methodLink RL 54 yL_cell ∈ BG := bg_2 (List.mem_of_getElem? (l := tables_1_2) (i := 236) rfl) rfl
theorem kw_72 : Cond.static yL_cell ∈ BG := bg_2 (List.mem_of_getElem? (l := tables_1_2) (i := 237) rfl) rfl
theorem kw_73 : Cond.initialized RL ∈ BG := bg_1 (List.mem_of_getElem? (l := tables_1_1) (i := 0) rfl) rfl
theorem kw_74 : Cond.code yL_cell cL_cell 2 (some .int) ∈ BG := bg_2 (List.mem_of_getElem? (l := tables_1_2) (i := 238) rfl) rfl
theorem kw_75 : Cond.methodLink RL 58 yL_low ∈ BG := bg_2 (List.mem_of_getElem? (l := tables_1_2) (i := 239) rfl) rfl
theorem kw_76 : Cond.static yL_low ∈ BG := bg_3 (List.mem_of_getElem? (l := tables_1_3) (i := 0) rfl) rfl
theorem kw_77 : Cond.code yL_low cL_low 2 (some .int) ∈ BG := bg_3 (List.mem_of_getElem? (l := tables_1_3) (i := 1) rfl) rfl
theorem kw_78 : Cond.constant RL 7 (2147483647) ∈ BG := bg_3 (List.mem_of_getElem? (l := tables_1_3) (i := 2) rfl) rfl
theorem kw_79 : Cond.methodLink RL 61 yX6_hire ∈ BG := bg_1 (List.mem_of_getElem? (l := tables_1_1) (i := 135) rfl) rfl
theorem kw_80 : Cond.instanceMethod yX6_hire ∈ BG := bg_1 (List.mem_of_getElem? (l := tables_1_1) (i := 136) rfl) rfl
theorem kw_81 : Cond.selects RX6 yX6_hire yX6_hire ∈ BG := bg_1 (List.mem_of_getElem? (l := tables_1_1) (i := 137) rfl) rfl
theorem kw_82 : Cond.code yX6_hire cX6_hire 3 (some .int) ∈ BG := bg_1 (List.mem_of_getElem? (l := tables_1_1) (i := 138) rfl) rfl
theorem kw_83 : Cond.classLink RX6 50 "java/lang/IllegalStateException" ∈ BG := bg_1 (List.mem_of_getElem? (l := tables_1_1) (i := 211) rfl) rfl
theorem kw_84 : Cond.initialized "java/lang/IllegalStateException" ∈ BG := bg_1 (List.mem_of_getElem? (l := tables_1_1) (i := 11) rfl) rfl
theorem kw_85 : Cond.constant RX6 45 (100000) ∈ BG := bg_1 (List.mem_of_getElem? (l := tables_1_1) (i := 139) rfl) rfl
theorem kw_86 : Cond.instantiable RX0 6 ∈ BG := bg_1 (List.mem_of_getElem? (l := tables_1_1) (i := 227) rfl) rfl
theorem kw_87 : Cond.initialized RX0 ∈ BG := bg_1 (List.mem_of_getElem? (l := tables_1_1) (i := 12) rfl) rfl
theorem kw_88 : Cond.methodLink RX6 46 yX6_requireWithin ∈ BG := bg_1 (List.mem_of_getElem? (l := tables_1_1) (i := 140) rfl) rfl
theorem kw_89 : Cond.static yX6_requireWithin ∈ BG := bg_1 (List.mem_of_getElem? (l := tables_1_1) (i := 141) rfl) rfl
theorem kw_90 : Cond.code yX6_requireWithin cX6_requireWithin 3 none ∈ BG := bg_1 (List.mem_of_getElem? (l := tables_1_1) (i := 142) rfl) rfl
theorem kw_91 : Cond.classLink RX6 200 "java/lang/IllegalArgumentException" ∈ BG := bg_1 (List.mem_of_getElem? (l := tables_1_1) (i := 143) rfl) rfl
theorem kw_92 : Cond.initialized "java/lang/IllegalArgumentException" ∈ BG := bg_1 (List.mem_of_getElem? (l := tables_1_1) (i := 10) rfl) rfl
theorem kw_93 : Cond.methodLink RX6 57 yX0_init ∈ BG := bg_1 (List.mem_of_getElem? (l := tables_1_1) (i := 228) rfl) rfl
theorem kw_94 : Cond.instanceMethod yX0_init ∈ BG := bg_1 (List.mem_of_getElem? (l := tables_1_1) (i := 229) rfl) rfl
theorem kw_95 : Cond.code yX0_init cX0_init 2 none ∈ BG := bg_1 (List.mem_of_getElem? (l := tables_1_1) (i := 230) rfl) rfl
theorem kw_96 : Cond.methodLink RX0 3 objectInit ∈ BG := bg_1 (List.mem_of_getElem? (l := tables_1_1) (i := 231) rfl) rfl
theorem kw_97 : Cond.fieldLink RX0 9 "Timesheets$Employee" "wage" "I" ∈ BG := bg_1 (List.mem_of_getElem? (l := tables_1_1) (i := 234) rfl) rfl
theorem kw_98 : Cond.fieldLink RX0 15 "Timesheets$Employee" "weeksClosed" "I" ∈ BG := bg_1 (List.mem_of_getElem? (l := tables_1_1) (i := 236) rfl) rfl
theorem kw_99 : Cond.fieldLink RX0 18 "Timesheets$Employee" "earnings" "J" ∈ BG := bg_1 (List.mem_of_getElem? (l := tables_1_1) (i := 238) rfl) rfl
theorem kw_100 : Cond.classLink RX0 22 RX4 ∈ BG := bg_1 (List.mem_of_getElem? (l := tables_1_1) (i := 232) rfl) rfl
theorem kw_101 : Cond.fieldLink RX0 27 "Timesheets$Employee" "punches" "LTimesheets$Table;" ∈ BG := bg_2 (List.mem_of_getElem? (l := tables_1_2) (i := 0) rfl) rfl
theorem kw_102 : Cond.fieldLink RX0 31 "Timesheets$Employee" "entries" "LTimesheets$Table;" ∈ BG := bg_2 (List.mem_of_getElem? (l := tables_1_2) (i := 3) rfl) rfl
theorem kw_103 : Cond.fieldLink RX0 34 "Timesheets$Employee" "breaks" "LTimesheets$Table;" ∈ BG := bg_2 (List.mem_of_getElem? (l := tables_1_2) (i := 6) rfl) rfl
theorem kw_104 : Cond.methodLink RX0 24 yX4_init ∈ BG := bg_1 (List.mem_of_getElem? (l := tables_1_1) (i := 233) rfl) rfl
theorem kw_105 : Cond.methodLink RL 64 yX6_addPremium ∈ BG := bg_2 (List.mem_of_getElem? (l := tables_1_2) (i := 73) rfl) rfl
theorem kw_106 : Cond.instanceMethod yX6_addPremium ∈ BG := bg_2 (List.mem_of_getElem? (l := tables_1_2) (i := 74) rfl) rfl
theorem kw_107 : Cond.selects RX6 yX6_addPremium yX6_addPremium ∈ BG := bg_2 (List.mem_of_getElem? (l := tables_1_2) (i := 75) rfl) rfl
theorem kw_108 : Cond.code yX6_addPremium cX6_addPremium 5 (some .int) ∈ BG := bg_2 (List.mem_of_getElem? (l := tables_1_2) (i := 76) rfl) rfl
theorem kw_109 : Cond.methodLink RX6 71 yX6_requireRoom ∈ BG := bg_2 (List.mem_of_getElem? (l := tables_1_2) (i := 49) rfl) rfl
theorem kw_110 : Cond.static yX6_requireRoom ∈ BG := bg_2 (List.mem_of_getElem? (l := tables_1_2) (i := 50) rfl) rfl
theorem kw_111 : Cond.code yX6_requireRoom cX6_requireRoom 2 none ∈ BG := bg_2 (List.mem_of_getElem? (l := tables_1_2) (i := 51) rfl) rfl
theorem kw_112 : Cond.methodLink RX6 93 yX4_size ∈ BG := bg_2 (List.mem_of_getElem? (l := tables_1_2) (i := 52) rfl) rfl
theorem kw_113 : Cond.instanceMethod yX4_size ∈ BG := bg_2 (List.mem_of_getElem? (l := tables_1_2) (i := 53) rfl) rfl
theorem kw_114 : Cond.selects RX4 yX4_size yX4_size ∈ BG := bg_2 (List.mem_of_getElem? (l := tables_1_2) (i := 54) rfl) rfl
theorem kw_115 : Cond.code yX4_size cX4_size 1 (some .int) ∈ BG := bg_2 (List.mem_of_getElem? (l := tables_1_2) (i := 55) rfl) rfl
theorem kw_116 : Cond.methodLink RX6 125 yX2_add ∈ BG := bg_2 (List.mem_of_getElem? (l := tables_1_2) (i := 77) rfl) rfl
theorem kw_117 : Cond.instanceMethod yX2_add ∈ BG := bg_2 (List.mem_of_getElem? (l := tables_1_2) (i := 78) rfl) rfl
theorem kw_118 : Cond.selects RX2 yX2_add yX2_add ∈ BG := bg_2 (List.mem_of_getElem? (l := tables_1_2) (i := 79) rfl) rfl
theorem kw_119 : Cond.code yX2_add cX2_add 6 (some .int) ∈ BG := bg_2 (List.mem_of_getElem? (l := tables_1_2) (i := 80) rfl) rfl
theorem kw_120 : Cond.methodLink RX2 20 yX4_size ∈ BG := bg_2 (List.mem_of_getElem? (l := tables_1_2) (i := 81) rfl) rfl
theorem kw_121 : Cond.methodLink RX2 24 yX4_insert ∈ BG := bg_2 (List.mem_of_getElem? (l := tables_1_2) (i := 82) rfl) rfl
theorem kw_122 : Cond.instanceMethod yX4_insert ∈ BG := bg_2 (List.mem_of_getElem? (l := tables_1_2) (i := 62) rfl) rfl
theorem kw_123 : Cond.selects RX4 yX4_insert yX4_insert ∈ BG := bg_2 (List.mem_of_getElem? (l := tables_1_2) (i := 63) rfl) rfl
theorem kw_124 : Cond.code yX4_insert cX4_insert 3 none ∈ BG := bg_2 (List.mem_of_getElem? (l := tables_1_2) (i := 64) rfl) rfl
theorem kw_125 : Cond.methodLink RX2 28 yX4_set ∈ BG := bg_2 (List.mem_of_getElem? (l := tables_1_2) (i := 83) rfl) rfl
theorem kw_126 : Cond.instanceMethod yX4_set ∈ BG := bg_2 (List.mem_of_getElem? (l := tables_1_2) (i := 66) rfl) rfl
theorem kw_127 : Cond.selects RX4 yX4_set yX4_set ∈ BG := bg_2 (List.mem_of_getElem? (l := tables_1_2) (i := 67) rfl) rfl
theorem kw_128 : Cond.code yX4_set cX4_set 5 none ∈ BG := bg_2 (List.mem_of_getElem? (l := tables_1_2) (i := 68) rfl) rfl
theorem kw_129 : Cond.methodLink RL 68 yX6_enter ∈ BG := bg_2 (List.mem_of_getElem? (l := tables_1_2) (i := 22) rfl) rfl
theorem kw_130 : Cond.instanceMethod yX6_enter ∈ BG := bg_2 (List.mem_of_getElem? (l := tables_1_2) (i := 23) rfl) rfl
theorem kw_131 : Cond.selects RX6 yX6_enter yX6_enter ∈ BG := bg_2 (List.mem_of_getElem? (l := tables_1_2) (i := 24) rfl) rfl
theorem kw_132 : Cond.code yX6_enter cX6_enter 4 (some .int) ∈ BG := bg_2 (List.mem_of_getElem? (l := tables_1_2) (i := 25) rfl) rfl
theorem kw_133 : Cond.methodLink RX6 60 yX6_find ∈ BG := bg_2 (List.mem_of_getElem? (l := tables_1_2) (i := 26) rfl) rfl
theorem kw_134 : Cond.instanceMethod yX6_find ∈ BG := bg_2 (List.mem_of_getElem? (l := tables_1_2) (i := 28) rfl) rfl
theorem kw_135 : Cond.selects RX6 yX6_find yX6_find ∈ BG := bg_0 (List.mem_of_getElem? (l := k2_sels lw_privs) (i := 1) rfl) rfl
theorem kw_136 : Cond.code yX6_find cX6_find 3 (some (.object "Timesheets$Employee")) ∈ BG := bg_2 (List.mem_of_getElem? (l := tables_1_2) (i := 29) rfl) rfl
theorem kw_137 : Cond.classLink RX6 195 "java/lang/IndexOutOfBoundsException" ∈ BG := bg_2 (List.mem_of_getElem? (l := tables_1_2) (i := 30) rfl) rfl
theorem kw_138 : Cond.initialized "java/lang/IndexOutOfBoundsException" ∈ BG := bg_1 (List.mem_of_getElem? (l := tables_1_1) (i := 13) rfl) rfl
theorem kw_139 : Cond.methodLink RX6 112 yX6_addByHand ∈ BG := bg_2 (List.mem_of_getElem? (l := tables_1_2) (i := 46) rfl) rfl
theorem kw_140 : Cond.static yX6_addByHand ∈ BG := bg_2 (List.mem_of_getElem? (l := tables_1_2) (i := 47) rfl) rfl
theorem kw_141 : Cond.code yX6_addByHand cX6_addByHand 4 (some .int) ∈ BG := bg_2 (List.mem_of_getElem? (l := tables_1_2) (i := 48) rfl) rfl
theorem kw_142 : Cond.methodLink RX6 209 yX4_addSpan ∈ BG := bg_2 (List.mem_of_getElem? (l := tables_1_2) (i := 57) rfl) rfl
theorem kw_143 : Cond.instanceMethod yX4_addSpan ∈ BG := bg_2 (List.mem_of_getElem? (l := tables_1_2) (i := 58) rfl) rfl
theorem kw_144 : Cond.selects RX4 yX4_addSpan yX4_addSpan ∈ BG := bg_2 (List.mem_of_getElem? (l := tables_1_2) (i := 59) rfl) rfl
theorem kw_145 : Cond.code yX4_addSpan cX4_addSpan 4 none ∈ BG := bg_2 (List.mem_of_getElem? (l := tables_1_2) (i := 60) rfl) rfl
theorem kw_146 : Cond.methodLink RX4 22 yX4_insert ∈ BG := bg_2 (List.mem_of_getElem? (l := tables_1_2) (i := 61) rfl) rfl
theorem kw_147 : Cond.methodLink RX4 26 yX4_set ∈ BG := bg_2 (List.mem_of_getElem? (l := tables_1_2) (i := 65) rfl) rfl
theorem kw_148 : Cond.methodLink RL 71 yX6_enterBreak ∈ BG := bg_2 (List.mem_of_getElem? (l := tables_1_2) (i := 69) rfl) rfl
theorem kw_149 : Cond.instanceMethod yX6_enterBreak ∈ BG := bg_2 (List.mem_of_getElem? (l := tables_1_2) (i := 70) rfl) rfl
theorem kw_150 : Cond.selects RX6 yX6_enterBreak yX6_enterBreak ∈ BG := bg_2 (List.mem_of_getElem? (l := tables_1_2) (i := 71) rfl) rfl
theorem kw_151 : Cond.code yX6_enterBreak cX6_enterBreak 4 (some .int) ∈ BG := bg_2 (List.mem_of_getElem? (l := tables_1_2) (i := 72) rfl) rfl
theorem kw_152 : Cond.methodLink RL 74 yL_isPaid ∈ BG := bg_3 (List.mem_of_getElem? (l := tables_1_3) (i := 3) rfl) rfl
theorem kw_153 : Cond.static yL_isPaid ∈ BG := bg_3 (List.mem_of_getElem? (l := tables_1_3) (i := 4) rfl) rfl
theorem kw_154 : Cond.code yL_isPaid cL_isPaid 14 (some .boolean) ∈ BG := bg_3 (List.mem_of_getElem? (l := tables_1_3) (i := 5) rfl) rfl
theorem kw_155 : Cond.methodLink RL 17 yL_reads ∈ BG := bg_3 (List.mem_of_getElem? (l := tables_1_3) (i := 6) rfl) rfl
theorem kw_156 : Cond.static yL_reads ∈ BG := bg_3 (List.mem_of_getElem? (l := tables_1_3) (i := 7) rfl) rfl
theorem kw_157 : Cond.code yL_reads cL_reads 4 none ∈ BG := bg_3 (List.mem_of_getElem? (l := tables_1_3) (i := 8) rfl) rfl
theorem kw_158 : Cond.methodLink RL 8 yX6_minutes ∈ BG := bg_3 (List.mem_of_getElem? (l := tables_1_3) (i := 9) rfl) rfl
theorem kw_159 : Cond.instanceMethod yX6_minutes ∈ BG := bg_3 (List.mem_of_getElem? (l := tables_1_3) (i := 10) rfl) rfl
theorem kw_160 : Cond.selects RX6 yX6_minutes yX6_minutes ∈ BG := bg_3 (List.mem_of_getElem? (l := tables_1_3) (i := 11) rfl) rfl
theorem kw_161 : Cond.code yX6_minutes cX6_minutes 5 (some .int) ∈ BG := bg_3 (List.mem_of_getElem? (l := tables_1_3) (i := 12) rfl) rfl
theorem kw_162 : Cond.methodLink RX6 131 yX1_read ∈ BG := bg_2 (List.mem_of_getElem? (l := tables_1_2) (i := 89) rfl) rfl
theorem kw_163 : Cond.instanceMethod yX1_read ∈ BG := bg_2 (List.mem_of_getElem? (l := tables_1_2) (i := 90) rfl) rfl
theorem kw_164 : Cond.selects RX1 yX1_read yX1_read ∈ BG := bg_2 (List.mem_of_getElem? (l := tables_1_2) (i := 91) rfl) rfl
theorem kw_165 : Cond.code yX1_read cX1_read 5 none ∈ BG := bg_2 (List.mem_of_getElem? (l := tables_1_2) (i := 92) rfl) rfl
theorem kw_166 : Cond.methodLink RX1 30 yX5_read ∈ BG := bg_2 (List.mem_of_getElem? (l := tables_1_2) (i := 93) rfl) rfl
theorem kw_167 : Cond.instanceMethod yX5_read ∈ BG := bg_2 (List.mem_of_getElem? (l := tables_1_2) (i := 94) rfl) rfl
theorem kw_168 : Cond.selects RX5 yX5_read yX5_read ∈ BG := bg_2 (List.mem_of_getElem? (l := tables_1_2) (i := 95) rfl) rfl
theorem kw_169 : Cond.code yX5_read cX5_read 2 none ∈ BG := bg_2 (List.mem_of_getElem? (l := tables_1_2) (i := 96) rfl) rfl
theorem kw_170 : Cond.methodLink RX5 39 yX3_read ∈ BG := bg_2 (List.mem_of_getElem? (l := tables_1_2) (i := 97) rfl) rfl
theorem kw_171 : Cond.instanceMethod yX3_read ∈ BG := bg_2 (List.mem_of_getElem? (l := tables_1_2) (i := 98) rfl) rfl
theorem kw_172 : Cond.selects RX3 yX3_read yX3_read ∈ BG := bg_2 (List.mem_of_getElem? (l := tables_1_2) (i := 99) rfl) rfl
theorem kw_173 : Cond.code yX3_read cX3_read 3 none ∈ BG := bg_2 (List.mem_of_getElem? (l := tables_1_2) (i := 100) rfl) rfl
theorem kw_174 : Cond.methodLink RX3 24 yX4_clear ∈ BG := bg_2 (List.mem_of_getElem? (l := tables_1_2) (i := 101) rfl) rfl
theorem kw_175 : Cond.instanceMethod yX4_clear ∈ BG := bg_2 (List.mem_of_getElem? (l := tables_1_2) (i := 102) rfl) rfl
theorem kw_176 : Cond.selects RX4 yX4_clear yX4_clear ∈ BG := bg_2 (List.mem_of_getElem? (l := tables_1_2) (i := 103) rfl) rfl
theorem kw_177 : Cond.code yX4_clear cX4_clear 1 none ∈ BG := bg_2 (List.mem_of_getElem? (l := tables_1_2) (i := 104) rfl) rfl
theorem kw_178 : Cond.methodLink RX3 27 yX4_size ∈ BG := bg_2 (List.mem_of_getElem? (l := tables_1_2) (i := 105) rfl) rfl
theorem kw_179 : Cond.methodLink RX3 31 yX3_isIn ∈ BG := bg_2 (List.mem_of_getElem? (l := tables_1_2) (i := 106) rfl) rfl
theorem kw_180 : Cond.static yX3_isIn ∈ BG := bg_2 (List.mem_of_getElem? (l := tables_1_2) (i := 107) rfl) rfl
theorem kw_181 : Cond.code yX3_isIn cX3_isIn 2 (some .boolean) ∈ BG := bg_2 (List.mem_of_getElem? (l := tables_1_2) (i := 108) rfl) rfl
theorem kw_182 : Cond.methodLink RX3 42 yX4_get ∈ BG := bg_2 (List.mem_of_getElem? (l := tables_1_2) (i := 109) rfl) rfl
theorem kw_183 : Cond.instanceMethod yX4_get ∈ BG := bg_2 (List.mem_of_getElem? (l := tables_1_2) (i := 110) rfl) rfl
theorem kw_184 : Cond.selects RX4 yX4_get yX4_get ∈ BG := bg_2 (List.mem_of_getElem? (l := tables_1_2) (i := 111) rfl) rfl
theorem kw_185 : Cond.code yX4_get cX4_get 4 (some .int) ∈ BG := bg_2 (List.mem_of_getElem? (l := tables_1_2) (i := 112) rfl) rfl
theorem kw_186 : Cond.methodLink RX3 35 yX3_addFromIn ∈ BG := bg_2 (List.mem_of_getElem? (l := tables_1_2) (i := 113) rfl) rfl
theorem kw_187 : Cond.instanceMethod yX3_addFromIn ∈ BG := bg_2 (List.mem_of_getElem? (l := tables_1_2) (i := 115) rfl) rfl
theorem kw_188 : Cond.selects RX3 yX3_addFromIn yX3_addFromIn ∈ BG := bg_0 (List.mem_of_getElem? (l := k2_sels lw_privs) (i := 2) rfl) rfl
theorem kw_189 : Cond.code yX3_addFromIn cX3_addFromIn 6 none ∈ BG := bg_2 (List.mem_of_getElem? (l := tables_1_2) (i := 116) rfl) rfl
theorem kw_190 : Cond.methodLink RX3 46 Lib.Math.min.name ∈ BG := bg_2 (List.mem_of_getElem? (l := tables_1_2) (i := 117) rfl) rfl
theorem kw_191 : Cond.static Lib.Math.min.name ∈ BG := bg_2 (List.mem_of_getElem? (l := tables_1_2) (i := 118) rfl) rfl
theorem kw_192 : Cond.initialized "java/lang/Math" ∈ BG := bg_1 (List.mem_of_getElem? (l := tables_1_1) (i := 14) rfl) rfl
theorem kw_193 : Cond.code Lib.Math.min.name Lib.Math.min.code 2 (some .int) ∈ BG := bg_2 (List.mem_of_getElem? (l := tables_1_2) (i := 119) rfl) rfl
theorem kw_194 : Cond.methodLink RX3 51 yX4_addSpan ∈ BG := bg_2 (List.mem_of_getElem? (l := tables_1_2) (i := 120) rfl) rfl
theorem kw_195 : Cond.methodLink RX3 39 yX3_addFromLoneOut ∈ BG := bg_2 (List.mem_of_getElem? (l := tables_1_2) (i := 121) rfl) rfl
theorem kw_196 : Cond.instanceMethod yX3_addFromLoneOut ∈ BG := bg_2 (List.mem_of_getElem? (l := tables_1_2) (i := 123) rfl) rfl
theorem kw_197 : Cond.selects RX3 yX3_addFromLoneOut yX3_addFromLoneOut ∈ BG := bg_0 (List.mem_of_getElem? (l := k2_sels lw_privs) (i := 3) rfl) rfl
theorem kw_198 : Cond.code yX3_addFromLoneOut cX3_addFromLoneOut 5 none ∈ BG := bg_2 (List.mem_of_getElem? (l := tables_1_2) (i := 124) rfl) rfl
theorem kw_199 : Cond.methodLink RX3 54 Lib.Math.max.name ∈ BG := bg_2 (List.mem_of_getElem? (l := tables_1_2) (i := 125) rfl) rfl
theorem kw_200 : Cond.static Lib.Math.max.name ∈ BG := bg_2 (List.mem_of_getElem? (l := tables_1_2) (i := 126) rfl) rfl
theorem kw_201 : Cond.code Lib.Math.max.name Lib.Math.max.code 2 (some .int) ∈ BG := bg_2 (List.mem_of_getElem? (l := tables_1_2) (i := 127) rfl) rfl
theorem kw_202 : Cond.methodLink RX5 43 yX4_clear ∈ BG := bg_2 (List.mem_of_getElem? (l := tables_1_2) (i := 128) rfl) rfl
theorem kw_203 : Cond.methodLink RX5 49 yX5_addEvents ∈ BG := bg_2 (List.mem_of_getElem? (l := tables_1_2) (i := 129) rfl) rfl
theorem kw_204 : Cond.instanceMethod yX5_addEvents ∈ BG := bg_2 (List.mem_of_getElem? (l := tables_1_2) (i := 131) rfl) rfl
theorem kw_205 : Cond.selects RX5 yX5_addEvents yX5_addEvents ∈ BG := bg_0 (List.mem_of_getElem? (l := k2_sels lw_privs) (i := 4) rfl) rfl
theorem kw_206 : Cond.code yX5_addEvents cX5_addEvents 5 none ∈ BG := bg_2 (List.mem_of_getElem? (l := tables_1_2) (i := 132) rfl) rfl
theorem kw_207 : Cond.methodLink RX5 62 yX4_size ∈ BG := bg_2 (List.mem_of_getElem? (l := tables_1_2) (i := 133) rfl) rfl
theorem kw_208 : Cond.methodLink RX5 66 yX4_get ∈ BG := bg_2 (List.mem_of_getElem? (l := tables_1_2) (i := 134) rfl) rfl
theorem kw_209 : Cond.methodLink RX5 70 yX5_addEvent ∈ BG := bg_2 (List.mem_of_getElem? (l := tables_1_2) (i := 135) rfl) rfl
theorem kw_210 : Cond.instanceMethod yX5_addEvent ∈ BG := bg_2 (List.mem_of_getElem? (l := tables_1_2) (i := 137) rfl) rfl
theorem kw_211 : Cond.selects RX5 yX5_addEvent yX5_addEvent ∈ BG := bg_0 (List.mem_of_getElem? (l := k2_sels lw_privs) (i := 5) rfl) rfl
theorem kw_212 : Cond.code yX5_addEvent cX5_addEvent 6 none ∈ BG := bg_2 (List.mem_of_getElem? (l := tables_1_2) (i := 138) rfl) rfl
theorem kw_213 : Cond.methodLink RX5 74 yX4_insert ∈ BG := bg_2 (List.mem_of_getElem? (l := tables_1_2) (i := 139) rfl) rfl
theorem kw_214 : Cond.methodLink RX5 78 yX4_set ∈ BG := bg_2 (List.mem_of_getElem? (l := tables_1_2) (i := 140) rfl) rfl
theorem kw_215 : Cond.methodLink RX5 59 yX5_goThroughEvents ∈ BG := bg_2 (List.mem_of_getElem? (l := tables_1_2) (i := 141) rfl) rfl
theorem kw_216 : Cond.instanceMethod yX5_goThroughEvents ∈ BG := bg_2 (List.mem_of_getElem? (l := tables_1_2) (i := 143) rfl) rfl
theorem kw_217 : Cond.selects RX5 yX5_goThroughEvents yX5_goThroughEvents ∈ BG := bg_0 (List.mem_of_getElem? (l := k2_sels lw_privs) (i := 6) rfl) rfl
theorem kw_218 : Cond.code yX5_goThroughEvents cX5_goThroughEvents 6 none ∈ BG := bg_2 (List.mem_of_getElem? (l := tables_1_2) (i := 144) rfl) rfl
theorem kw_219 : Cond.methodLink RX5 81 yX5_addWorked ∈ BG := bg_2 (List.mem_of_getElem? (l := tables_1_2) (i := 145) rfl) rfl
theorem kw_220 : Cond.instanceMethod yX5_addWorked ∈ BG := bg_2 (List.mem_of_getElem? (l := tables_1_2) (i := 147) rfl) rfl
theorem kw_221 : Cond.selects RX5 yX5_addWorked yX5_addWorked ∈ BG := bg_0 (List.mem_of_getElem? (l := k2_sels lw_privs) (i := 7) rfl) rfl
theorem kw_222 : Cond.code yX5_addWorked cX5_addWorked 4 none ∈ BG := bg_2 (List.mem_of_getElem? (l := tables_1_2) (i := 148) rfl) rfl
theorem kw_223 : Cond.methodLink RX5 84 yX4_addSpan ∈ BG := bg_2 (List.mem_of_getElem? (l := tables_1_2) (i := 149) rfl) rfl
theorem kw_224 : Cond.methodLink RX1 37 yX1_takeOffAutomaticBreaks ∈ BG := bg_2 (List.mem_of_getElem? (l := tables_1_2) (i := 150) rfl) rfl
theorem kw_225 : Cond.instanceMethod yX1_takeOffAutomaticBreaks ∈ BG := bg_2 (List.mem_of_getElem? (l := tables_1_2) (i := 152) rfl) rfl
theorem kw_226 : Cond.selects RX1 yX1_takeOffAutomaticBreaks yX1_takeOffAutomaticBreaks ∈ BG := bg_0 (List.mem_of_getElem? (l := k2_sels lw_privs) (i := 8) rfl) rfl
theorem kw_227 : Cond.code yX1_takeOffAutomaticBreaks cX1_takeOffAutomaticBreaks 5 none ∈ BG := bg_2 (List.mem_of_getElem? (l := tables_1_2) (i := 153) rfl) rfl
theorem kw_228 : Cond.methodLink RX1 64 Lib.Math.min.name ∈ BG := bg_2 (List.mem_of_getElem? (l := tables_1_2) (i := 157) rfl) rfl
theorem kw_229 : Cond.methodLink RX1 41 yX4_clear ∈ BG := bg_2 (List.mem_of_getElem? (l := tables_1_2) (i := 154) rfl) rfl
theorem kw_230 : Cond.methodLink RX1 56 yX4_size ∈ BG := bg_2 (List.mem_of_getElem? (l := tables_1_2) (i := 155) rfl) rfl
theorem kw_231 : Cond.methodLink RX1 60 yX4_get ∈ BG := bg_2 (List.mem_of_getElem? (l := tables_1_2) (i := 156) rfl) rfl
theorem kw_232 : Cond.methodLink RX1 69 yX4_addSpan ∈ BG := bg_2 (List.mem_of_getElem? (l := tables_1_2) (i := 158) rfl) rfl
theorem kw_233 : Cond.methodLink RX1 44 yX1_isFull ∈ BG := bg_2 (List.mem_of_getElem? (l := tables_1_2) (i := 159) rfl) rfl
theorem kw_234 : Cond.instanceMethod yX1_isFull ∈ BG := bg_2 (List.mem_of_getElem? (l := tables_1_2) (i := 161) rfl) rfl
theorem kw_235 : Cond.selects RX1 yX1_isFull yX1_isFull ∈ BG := bg_0 (List.mem_of_getElem? (l := k2_sels lw_privs) (i := 9) rfl) rfl
theorem kw_236 : Cond.code yX1_isFull cX1_isFull 3 (some .boolean) ∈ BG := bg_2 (List.mem_of_getElem? (l := tables_1_2) (i := 162) rfl) rfl
theorem kw_237 : Cond.static yX6_minutesOnDay ∈ BG := bg_2 (List.mem_of_getElem? (l := tables_1_2) (i := 164) rfl) rfl
theorem kw_238 : Cond.code yX6_minutesOnDay cX6_minutesOnDay 6 (some .int) ∈ BG := bg_2 (List.mem_of_getElem? (l := tables_1_2) (i := 165) rfl) rfl
theorem kw_239 : Cond.methodLink RX6 213 Lib.Math.max.name ∈ BG := bg_2 (List.mem_of_getElem? (l := tables_1_2) (i := 167) rfl) rfl
theorem kw_240 : Cond.methodLink RX6 218 Lib.Math.min.name ∈ BG := bg_2 (List.mem_of_getElem? (l := tables_1_2) (i := 168) rfl) rfl
theorem kw_241 : Cond.methodLink RX6 102 yX4_get ∈ BG := bg_2 (List.mem_of_getElem? (l := tables_1_2) (i := 166) rfl) rfl
theorem kw_242 : Cond.methodLink RX1 48 yX1_addPartsOfDay ∈ BG := bg_2 (List.mem_of_getElem? (l := tables_1_2) (i := 169) rfl) rfl
theorem kw_243 : Cond.instanceMethod yX1_addPartsOfDay ∈ BG := bg_2 (List.mem_of_getElem? (l := tables_1_2) (i := 171) rfl) rfl
theorem kw_244 : Cond.selects RX1 yX1_addPartsOfDay yX1_addPartsOfDay ∈ BG := bg_0 (List.mem_of_getElem? (l := k2_sels lw_privs) (i := 10) rfl) rfl
theorem kw_245 : Cond.code yX1_addPartsOfDay cX1_addPartsOfDay 8 none ∈ BG := bg_2 (List.mem_of_getElem? (l := tables_1_2) (i := 172) rfl) rfl
theorem kw_246 : Cond.methodLink RX1 72 Lib.Math.max.name ∈ BG := bg_2 (List.mem_of_getElem? (l := tables_1_2) (i := 173) rfl) rfl
theorem kw_247 : Cond.methodLink RX1 75 yX1_addParts ∈ BG := bg_2 (List.mem_of_getElem? (l := tables_1_2) (i := 174) rfl) rfl
theorem kw_248 : Cond.instanceMethod yX1_addParts ∈ BG := bg_2 (List.mem_of_getElem? (l := tables_1_2) (i := 176) rfl) rfl
theorem kw_249 : Cond.selects RX1 yX1_addParts yX1_addParts ∈ BG := bg_0 (List.mem_of_getElem? (l := k2_sels lw_privs) (i := 11) rfl) rfl
theorem kw_250 : Cond.code yX1_addParts cX1_addParts 12 none ∈ BG := bg_2 (List.mem_of_getElem? (l := tables_1_2) (i := 177) rfl) rfl
theorem kw_251 : Cond.methodLink RX1 79 yX1_untilLimit ∈ BG := bg_2 (List.mem_of_getElem? (l := tables_1_2) (i := 178) rfl) rfl
theorem kw_252 : Cond.static yX1_untilLimit ∈ BG := bg_2 (List.mem_of_getElem? (l := tables_1_2) (i := 179) rfl) rfl
theorem kw_253 : Cond.code yX1_untilLimit cX1_untilLimit 3 (some .int) ∈ BG := bg_2 (List.mem_of_getElem? (l := tables_1_2) (i := 180) rfl) rfl
theorem kw_254 : Cond.methodLink RX1 82 yX1_categoryFor ∈ BG := bg_2 (List.mem_of_getElem? (l := tables_1_2) (i := 181) rfl) rfl
theorem kw_255 : Cond.static yX1_categoryFor ∈ BG := bg_2 (List.mem_of_getElem? (l := tables_1_2) (i := 182) rfl) rfl
theorem kw_256 : Cond.code yX1_categoryFor cX1_categoryFor 3 (some .int) ∈ BG := bg_2 (List.mem_of_getElem? (l := tables_1_2) (i := 183) rfl) rfl
theorem kw_257 : Cond.methodLink RX1 86 yX4_set ∈ BG := bg_2 (List.mem_of_getElem? (l := tables_1_2) (i := 184) rfl) rfl
theorem kw_258 : Cond.methodLink RX6 189 yX1_minutesOf ∈ BG := bg_3 (List.mem_of_getElem? (l := tables_1_3) (i := 13) rfl) rfl
theorem kw_259 : Cond.instanceMethod yX1_minutesOf ∈ BG := bg_2 (List.mem_of_getElem? (l := tables_1_2) (i := 194) rfl) rfl
theorem kw_260 : Cond.selects RX1 yX1_minutesOf yX1_minutesOf ∈ BG := bg_2 (List.mem_of_getElem? (l := tables_1_2) (i := 195) rfl) rfl
theorem kw_261 : Cond.code yX1_minutesOf cX1_minutesOf 5 (some .int) ∈ BG := bg_2 (List.mem_of_getElem? (l := tables_1_2) (i := 196) rfl) rfl
theorem kw_262 : Cond.methodLink RL 14 yX6_quarters ∈ BG := bg_3 (List.mem_of_getElem? (l := tables_1_3) (i := 14) rfl) rfl
theorem kw_263 : Cond.instanceMethod yX6_quarters ∈ BG := bg_3 (List.mem_of_getElem? (l := tables_1_3) (i := 15) rfl) rfl
theorem kw_264 : Cond.selects RX6 yX6_quarters yX6_quarters ∈ BG := bg_3 (List.mem_of_getElem? (l := tables_1_3) (i := 16) rfl) rfl
theorem kw_265 : Cond.code yX6_quarters cX6_quarters 5 (some .int) ∈ BG := bg_3 (List.mem_of_getElem? (l := tables_1_3) (i := 17) rfl) rfl
theorem kw_266 : Cond.methodLink RX6 192 yX1_quartersOf ∈ BG := bg_3 (List.mem_of_getElem? (l := tables_1_3) (i := 18) rfl) rfl
theorem kw_267 : Cond.instanceMethod yX1_quartersOf ∈ BG := bg_3 (List.mem_of_getElem? (l := tables_1_3) (i := 19) rfl) rfl
theorem kw_268 : Cond.selects RX1 yX1_quartersOf yX1_quartersOf ∈ BG := bg_3 (List.mem_of_getElem? (l := tables_1_3) (i := 20) rfl) rfl
theorem kw_269 : Cond.code yX1_quartersOf cX1_quartersOf 9 (some .int) ∈ BG := bg_3 (List.mem_of_getElem? (l := tables_1_3) (i := 21) rfl) rfl
theorem kw_270 : Cond.methodLink RX1 90 yX1_minutesOf ∈ BG := bg_2 (List.mem_of_getElem? (l := tables_1_2) (i := 193) rfl) rfl
theorem kw_271 : Cond.methodLink RX1 93 yX1_quartersOfWeek ∈ BG := bg_2 (List.mem_of_getElem? (l := tables_1_2) (i := 189) rfl) rfl
theorem kw_272 : Cond.instanceMethod yX1_quartersOfWeek ∈ BG := bg_2 (List.mem_of_getElem? (l := tables_1_2) (i := 191) rfl) rfl
theorem kw_273 : Cond.selects RX1 yX1_quartersOfWeek yX1_quartersOfWeek ∈ BG := bg_0 (List.mem_of_getElem? (l := k2_sels lw_privs) (i := 12) rfl) rfl
theorem kw_274 : Cond.code yX1_quartersOfWeek cX1_quartersOfWeek 4 (some .int) ∈ BG := bg_2 (List.mem_of_getElem? (l := tables_1_2) (i := 192) rfl) rfl
theorem kw_275 : Cond.methodLink RL 23 yL_weekOf ∈ BG := bg_3 (List.mem_of_getElem? (l := tables_1_3) (i := 22) rfl) rfl
theorem kw_276 : Cond.static yL_weekOf ∈ BG := bg_3 (List.mem_of_getElem? (l := tables_1_3) (i := 23) rfl) rfl
theorem kw_277 : Cond.code yL_weekOf cL_weekOf 10 (some .int) ∈ BG := bg_3 (List.mem_of_getElem? (l := tables_1_3) (i := 24) rfl) rfl
theorem kw_278 : Cond.methodLink RL 27 yX6_premiumPay ∈ BG := bg_3 (List.mem_of_getElem? (l := tables_1_3) (i := 25) rfl) rfl
theorem kw_279 : Cond.instanceMethod yX6_premiumPay ∈ BG := bg_3 (List.mem_of_getElem? (l := tables_1_3) (i := 26) rfl) rfl
theorem kw_280 : Cond.selects RX6 yX6_premiumPay yX6_premiumPay ∈ BG := bg_3 (List.mem_of_getElem? (l := tables_1_3) (i := 27) rfl) rfl
theorem kw_281 : Cond.code yX6_premiumPay cX6_premiumPay 2 (some .int) ∈ BG := bg_3 (List.mem_of_getElem? (l := tables_1_3) (i := 28) rfl) rfl
theorem kw_282 : Cond.methodLink RX6 142 yX2_payFor ∈ BG := bg_2 (List.mem_of_getElem? (l := tables_1_2) (i := 197) rfl) rfl
theorem kw_283 : Cond.instanceMethod yX2_payFor ∈ BG := bg_2 (List.mem_of_getElem? (l := tables_1_2) (i := 198) rfl) rfl
theorem kw_284 : Cond.selects RX2 yX2_payFor yX2_payFor ∈ BG := bg_2 (List.mem_of_getElem? (l := tables_1_2) (i := 199) rfl) rfl
theorem kw_285 : Cond.code yX2_payFor cX2_payFor 4 (some .int) ∈ BG := bg_2 (List.mem_of_getElem? (l := tables_1_2) (i := 200) rfl) rfl
theorem kw_286 : Cond.methodLink RX2 32 yX4_get ∈ BG := bg_2 (List.mem_of_getElem? (l := tables_1_2) (i := 201) rfl) rfl
theorem kw_287 : Cond.methodLink RX2 36 yX2_sumOver ∈ BG := bg_2 (List.mem_of_getElem? (l := tables_1_2) (i := 202) rfl) rfl
theorem kw_288 : Cond.instanceMethod yX2_sumOver ∈ BG := bg_2 (List.mem_of_getElem? (l := tables_1_2) (i := 204) rfl) rfl
theorem kw_289 : Cond.selects RX2 yX2_sumOver yX2_sumOver ∈ BG := bg_0 (List.mem_of_getElem? (l := k2_sels lw_privs) (i := 13) rfl) rfl
theorem kw_290 : Cond.code yX2_sumOver cX2_sumOver 8 (some .int) ∈ BG := bg_2 (List.mem_of_getElem? (l := tables_1_2) (i := 205) rfl) rfl
theorem kw_291 : Cond.methodLink RX2 43 Lib.Math.min.name ∈ BG := bg_2 (List.mem_of_getElem? (l := tables_1_2) (i := 210) rfl) rfl
theorem kw_292 : Cond.methodLink RX2 39 yX2_nextChange ∈ BG := bg_2 (List.mem_of_getElem? (l := tables_1_2) (i := 206) rfl) rfl
theorem kw_293 : Cond.instanceMethod yX2_nextChange ∈ BG := bg_2 (List.mem_of_getElem? (l := tables_1_2) (i := 208) rfl) rfl
theorem kw_294 : Cond.selects RX2 yX2_nextChange yX2_nextChange ∈ BG := bg_0 (List.mem_of_getElem? (l := k2_sels lw_privs) (i := 14) rfl) rfl
theorem kw_295 : Cond.code yX2_nextChange cX2_nextChange 6 (some .int) ∈ BG := bg_2 (List.mem_of_getElem? (l := tables_1_2) (i := 209) rfl) rfl
theorem kw_296 : Cond.methodLink RX2 48 yX2_greatestRate ∈ BG := bg_2 (List.mem_of_getElem? (l := tables_1_2) (i := 211) rfl) rfl
theorem kw_297 : Cond.instanceMethod yX2_greatestRate ∈ BG := bg_2 (List.mem_of_getElem? (l := tables_1_2) (i := 213) rfl) rfl
theorem kw_298 : Cond.selects RX2 yX2_greatestRate yX2_greatestRate ∈ BG := bg_0 (List.mem_of_getElem? (l := k2_sels lw_privs) (i := 15) rfl) rfl
theorem kw_299 : Cond.code yX2_greatestRate cX2_greatestRate 6 (some .int) ∈ BG := bg_2 (List.mem_of_getElem? (l := tables_1_2) (i := 214) rfl) rfl
theorem kw_300 : Cond.methodLink RX2 55 Lib.Math.max.name ∈ BG := bg_2 (List.mem_of_getElem? (l := tables_1_2) (i := 218) rfl) rfl
theorem kw_301 : Cond.methodLink RX2 51 yX2_isBetween ∈ BG := bg_2 (List.mem_of_getElem? (l := tables_1_2) (i := 215) rfl) rfl
theorem kw_302 : Cond.static yX2_isBetween ∈ BG := bg_2 (List.mem_of_getElem? (l := tables_1_2) (i := 216) rfl) rfl
theorem kw_303 : Cond.code yX2_isBetween cX2_isBetween 3 (some .boolean) ∈ BG := bg_2 (List.mem_of_getElem? (l := tables_1_2) (i := 217) rfl) rfl
theorem kw_304 : Cond.methodLink RL 31 yX6_pay ∈ BG := bg_2 (List.mem_of_getElem? (l := tables_1_2) (i := 232) rfl) rfl
theorem kw_305 : Cond.instanceMethod yX6_pay ∈ BG := bg_2 (List.mem_of_getElem? (l := tables_1_2) (i := 233) rfl) rfl
theorem kw_306 : Cond.selects RX6 yX6_pay yX6_pay ∈ BG := bg_2 (List.mem_of_getElem? (l := tables_1_2) (i := 234) rfl) rfl
theorem kw_307 : Cond.code yX6_pay cX6_pay 3 (some .int) ∈ BG := bg_2 (List.mem_of_getElem? (l := tables_1_2) (i := 235) rfl) rfl
theorem kw_308 : Cond.methodLink RX6 135 yX1_basicPay ∈ BG := bg_2 (List.mem_of_getElem? (l := tables_1_2) (i := 185) rfl) rfl
theorem kw_309 : Cond.instanceMethod yX1_basicPay ∈ BG := bg_2 (List.mem_of_getElem? (l := tables_1_2) (i := 186) rfl) rfl
theorem kw_310 : Cond.selects RX1 yX1_basicPay yX1_basicPay ∈ BG := bg_2 (List.mem_of_getElem? (l := tables_1_2) (i := 187) rfl) rfl
theorem kw_311 : Cond.code yX1_basicPay cX1_basicPay 3 (some .int) ∈ BG := bg_2 (List.mem_of_getElem? (l := tables_1_2) (i := 188) rfl) rfl
theorem kw_312 : Cond.methodLink RL 34 yX6_workedOn ∈ BG := bg_3 (List.mem_of_getElem? (l := tables_1_3) (i := 29) rfl) rfl
theorem kw_313 : Cond.instanceMethod yX6_workedOn ∈ BG := bg_3 (List.mem_of_getElem? (l := tables_1_3) (i := 30) rfl) rfl
theorem kw_314 : Cond.selects RX6 yX6_workedOn yX6_workedOn ∈ BG := bg_3 (List.mem_of_getElem? (l := tables_1_3) (i := 31) rfl) rfl
theorem kw_315 : Cond.code yX6_workedOn cX6_workedOn 4 (some .int) ∈ BG := bg_3 (List.mem_of_getElem? (l := tables_1_3) (i := 32) rfl) rfl
theorem kw_316 : Cond.methodLink RX6 173 yX5_read ∈ BG := bg_3 (List.mem_of_getElem? (l := tables_1_3) (i := 33) rfl) rfl
theorem kw_317 : Cond.methodLink RX6 180 yX6_minutesOnDay ∈ BG := bg_3 (List.mem_of_getElem? (l := tables_1_3) (i := 34) rfl) rfl
theorem kw_318 : Cond.methodLink RL 78 yX6_closeWeek ∈ BG := bg_2 (List.mem_of_getElem? (l := tables_1_2) (i := 84) rfl) rfl
theorem kw_319 : Cond.instanceMethod yX6_closeWeek ∈ BG := bg_2 (List.mem_of_getElem? (l := tables_1_2) (i := 85) rfl) rfl
theorem kw_320 : Cond.selects RX6 yX6_closeWeek yX6_closeWeek ∈ BG := bg_2 (List.mem_of_getElem? (l := tables_1_2) (i := 86) rfl) rfl
theorem kw_321 : Cond.code yX6_closeWeek cX6_closeWeek 4 (some .int) ∈ BG := bg_2 (List.mem_of_getElem? (l := tables_1_2) (i := 87) rfl) rfl
theorem kw_322 : Cond.methodLink RX6 146 yX0_beginNextWeek ∈ BG := bg_2 (List.mem_of_getElem? (l := tables_1_2) (i := 219) rfl) rfl
theorem kw_323 : Cond.instanceMethod yX0_beginNextWeek ∈ BG := bg_2 (List.mem_of_getElem? (l := tables_1_2) (i := 220) rfl) rfl
theorem kw_324 : Cond.selects RX0 yX0_beginNextWeek yX0_beginNextWeek ∈ BG := bg_2 (List.mem_of_getElem? (l := tables_1_2) (i := 221) rfl) rfl
theorem kw_325 : Cond.code yX0_beginNextWeek cX0_beginNextWeek 2 none ∈ BG := bg_2 (List.mem_of_getElem? (l := tables_1_2) (i := 222) rfl) rfl
theorem kw_326 : Cond.methodLink RX0 37 yX4_clear ∈ BG := bg_2 (List.mem_of_getElem? (l := tables_1_2) (i := 223) rfl) rfl
theorem kw_327 : Cond.methodLink RL 81 yX6_earned ∈ BG := bg_2 (List.mem_of_getElem? (l := tables_1_2) (i := 228) rfl) rfl
theorem kw_328 : Cond.instanceMethod yX6_earned ∈ BG := bg_2 (List.mem_of_getElem? (l := tables_1_2) (i := 229) rfl) rfl
theorem kw_329 : Cond.selects RX6 yX6_earned yX6_earned ∈ BG := bg_2 (List.mem_of_getElem? (l := tables_1_2) (i := 230) rfl) rfl
theorem kw_330 : Cond.code yX6_earned cX6_earned 2 (some .long) ∈ BG := bg_2 (List.mem_of_getElem? (l := tables_1_2) (i := 231) rfl) rfl
theorem kw_331 : Cond.methodLink RL 85 yX6_closedWeeks ∈ BG := bg_2 (List.mem_of_getElem? (l := tables_1_2) (i := 224) rfl) rfl
theorem kw_332 : Cond.instanceMethod yX6_closedWeeks ∈ BG := bg_2 (List.mem_of_getElem? (l := tables_1_2) (i := 225) rfl) rfl
theorem kw_333 : Cond.selects RX6 yX6_closedWeeks yX6_closedWeeks ∈ BG := bg_2 (List.mem_of_getElem? (l := tables_1_2) (i := 226) rfl) rfl
theorem kw_334 : Cond.code yX6_closedWeeks cX6_closedWeeks 2 (some .int) ∈ BG := bg_2 (List.mem_of_getElem? (l := tables_1_2) (i := 227) rfl) rfl
theorem kw_335 : Cond.methodLink RL 88 yL_isEmpty ∈ BG := bg_3 (List.mem_of_getElem? (l := tables_1_3) (i := 35) rfl) rfl
theorem kw_336 : Cond.static yL_isEmpty ∈ BG := bg_3 (List.mem_of_getElem? (l := tables_1_3) (i := 36) rfl) rfl
theorem kw_337 : Cond.code yL_isEmpty cL_isEmpty 2 (some .boolean) ∈ BG := bg_3 (List.mem_of_getElem? (l := tables_1_3) (i := 37) rfl) rfl
theorem kw_338 : Cond.methodLink RL 38 yX6_shifts ∈ BG := bg_3 (List.mem_of_getElem? (l := tables_1_3) (i := 38) rfl) rfl
theorem kw_339 : Cond.instanceMethod yX6_shifts ∈ BG := bg_3 (List.mem_of_getElem? (l := tables_1_3) (i := 39) rfl) rfl
theorem kw_340 : Cond.selects RX6 yX6_shifts yX6_shifts ∈ BG := bg_3 (List.mem_of_getElem? (l := tables_1_3) (i := 40) rfl) rfl
theorem kw_341 : Cond.code yX6_shifts cX6_shifts 2 (some .int) ∈ BG := bg_3 (List.mem_of_getElem? (l := tables_1_3) (i := 41) rfl) rfl
theorem kw_342 : Cond.methodLink RX6 156 yX3_read ∈ BG := bg_3 (List.mem_of_getElem? (l := tables_1_3) (i := 42) rfl) rfl
theorem kw_343 : Cond.methodLink RL 41 yX6_stretches ∈ BG := bg_3 (List.mem_of_getElem? (l := tables_1_3) (i := 43) rfl) rfl
theorem kw_344 : Cond.instanceMethod yX6_stretches ∈ BG := bg_3 (List.mem_of_getElem? (l := tables_1_3) (i := 44) rfl) rfl
theorem kw_345 : Cond.selects RX6 yX6_stretches yX6_stretches ∈ BG := bg_3 (List.mem_of_getElem? (l := tables_1_3) (i := 45) rfl) rfl
theorem kw_346 : Cond.code yX6_stretches cX6_stretches 2 (some .int) ∈ BG := bg_3 (List.mem_of_getElem? (l := tables_1_3) (i := 46) rfl) rfl
theorem kw_347 : Cond.methodLink RL 44 yX6_overlap ∈ BG := bg_3 (List.mem_of_getElem? (l := tables_1_3) (i := 47) rfl) rfl
theorem kw_348 : Cond.instanceMethod yX6_overlap ∈ BG := bg_3 (List.mem_of_getElem? (l := tables_1_3) (i := 48) rfl) rfl
theorem kw_349 : Cond.selects RX6 yX6_overlap yX6_overlap ∈ BG := bg_3 (List.mem_of_getElem? (l := tables_1_3) (i := 49) rfl) rfl
theorem kw_350 : Cond.code yX6_overlap cX6_overlap 2 (some .int) ∈ BG := bg_3 (List.mem_of_getElem? (l := tables_1_3) (i := 50) rfl) rfl
theorem kw_351 : Cond.methodLink RL 47 yX6_longestStretch ∈ BG := bg_3 (List.mem_of_getElem? (l := tables_1_3) (i := 51) rfl) rfl
theorem kw_352 : Cond.instanceMethod yX6_longestStretch ∈ BG := bg_3 (List.mem_of_getElem? (l := tables_1_3) (i := 52) rfl) rfl
theorem kw_353 : Cond.selects RX6 yX6_longestStretch yX6_longestStretch ∈ BG := bg_3 (List.mem_of_getElem? (l := tables_1_3) (i := 53) rfl) rfl
theorem kw_354 : Cond.code yX6_longestStretch cX6_longestStretch 2 (some .int) ∈ BG := bg_3 (List.mem_of_getElem? (l := tables_1_3) (i := 54) rfl) rfl
theorem kw_355 : Cond.methodLink RX6 183 yX6_longest ∈ BG := bg_3 (List.mem_of_getElem? (l := tables_1_3) (i := 55) rfl) rfl
theorem kw_356 : Cond.static yX6_longest ∈ BG := bg_3 (List.mem_of_getElem? (l := tables_1_3) (i := 56) rfl) rfl
theorem kw_357 : Cond.code yX6_longest cX6_longest 3 (some .int) ∈ BG := bg_3 (List.mem_of_getElem? (l := tables_1_3) (i := 57) rfl) rfl
theorem kw_358 : Cond.methodLink RL 50 yX6_repairedShifts ∈ BG := bg_3 (List.mem_of_getElem? (l := tables_1_3) (i := 58) rfl) rfl
theorem kw_359 : Cond.instanceMethod yX6_repairedShifts ∈ BG := bg_3 (List.mem_of_getElem? (l := tables_1_3) (i := 59) rfl) rfl
theorem kw_360 : Cond.selects RX6 yX6_repairedShifts yX6_repairedShifts ∈ BG := bg_3 (List.mem_of_getElem? (l := tables_1_3) (i := 60) rfl) rfl
theorem kw_361 : Cond.code yX6_repairedShifts cX6_repairedShifts 2 (some .int) ∈ BG := bg_3 (List.mem_of_getElem? (l := tables_1_3) (i := 61) rfl) rfl
theorem in_X0 : ∀ w ∈ u_ws RX0 TX0 6, w ∈ BG := by
  show ∀ w ∈ [Cond.lays "Timesheets$Employee" "Timesheets$Employee" "wage" "I", Cond.lays "Timesheets$Employee" "Timesheets$Employee" "weeksClosed" "I", Cond.lays "Timesheets$Employee" "Timesheets$Employee" "earnings" "J", Cond.laysFinal "Timesheets$Employee" "Timesheets$Employee" "punches" "LTimesheets$Table;", Cond.laysFinal "Timesheets$Employee" "Timesheets$Employee" "entries" "LTimesheets$Table;", Cond.laysFinal "Timesheets$Employee" "Timesheets$Employee" "breaks" "LTimesheets$Table;"], w ∈ BG
  exact List.forall_mem_cons.mpr ⟨bg_2 (List.mem_of_getElem? (l := tables_1_2) (i := 9) rfl) rfl, List.forall_mem_cons.mpr ⟨bg_2 (List.mem_of_getElem? (l := tables_1_2) (i := 11) rfl) rfl, List.forall_mem_cons.mpr ⟨bg_2 (List.mem_of_getElem? (l := tables_1_2) (i := 13) rfl) rfl, List.forall_mem_cons.mpr ⟨bg_2 (List.mem_of_getElem? (l := tables_1_2) (i := 15) rfl) rfl, List.forall_mem_cons.mpr ⟨bg_2 (List.mem_of_getElem? (l := tables_1_2) (i := 17) rfl) rfl, List.forall_mem_cons.mpr ⟨bg_2 (List.mem_of_getElem? (l := tables_1_2) (i := 19) rfl) rfl, (fun _ h => absurd h List.not_mem_nil)⟩⟩⟩⟩⟩⟩
theorem in_X1 : ∀ w ∈ u_ws RX1 TX1 3, w ∈ BG := by
  show ∀ w ∈ [Cond.laysFinal "Timesheets$Payroll" "Timesheets$Payroll" "timeline" "LTimesheets$Timeline;", Cond.laysFinal "Timesheets$Payroll" "Timesheets$Payroll" "paid" "LTimesheets$Table;", Cond.laysFinal "Timesheets$Payroll" "Timesheets$Payroll" "parts" "LTimesheets$Table;"], w ∈ BG
  exact List.forall_mem_cons.mpr ⟨bg_1 (List.mem_of_getElem? (l := tables_1_1) (i := 109) rfl) rfl, List.forall_mem_cons.mpr ⟨bg_1 (List.mem_of_getElem? (l := tables_1_1) (i := 111) rfl) rfl, List.forall_mem_cons.mpr ⟨bg_1 (List.mem_of_getElem? (l := tables_1_1) (i := 113) rfl) rfl, (fun _ h => absurd h List.not_mem_nil)⟩⟩⟩
theorem in_X2 : ∀ w ∈ u_ws RX2 TX2 1, w ∈ BG := by
  show ∀ w ∈ [Cond.laysFinal "Timesheets$Premiums" "Timesheets$Premiums" "rows" "LTimesheets$Table;"], w ∈ BG
  exact List.forall_mem_cons.mpr ⟨bg_1 (List.mem_of_getElem? (l := tables_1_1) (i := 50) rfl) rfl, (fun _ h => absurd h List.not_mem_nil)⟩
theorem in_X3 : ∀ w ∈ u_ws RX3 TX3 2, w ∈ BG := by
  show ∀ w ∈ [Cond.laysFinal "Timesheets$Shifts" "Timesheets$Shifts" "spans" "LTimesheets$Table;", Cond.lays "Timesheets$Shifts" "Timesheets$Shifts" "repaired" "I"], w ∈ BG
  exact List.forall_mem_cons.mpr ⟨bg_1 (List.mem_of_getElem? (l := tables_1_1) (i := 78) rfl) rfl, List.forall_mem_cons.mpr ⟨bg_1 (List.mem_of_getElem? (l := tables_1_1) (i := 80) rfl) rfl, (fun _ h => absurd h List.not_mem_nil)⟩⟩
theorem in_X4 : ∀ w ∈ u_ws RX4 TX4 3, w ∈ BG := by
  show ∀ w ∈ [Cond.laysFinal "Timesheets$Table" "Timesheets$Table" "width" "I", Cond.laysFinal "Timesheets$Table" "Timesheets$Table" "cells" "[I", Cond.lays "Timesheets$Table" "Timesheets$Table" "rows" "I"], w ∈ BG
  exact List.forall_mem_cons.mpr ⟨bg_1 (List.mem_of_getElem? (l := tables_1_1) (i := 40) rfl) rfl, List.forall_mem_cons.mpr ⟨bg_1 (List.mem_of_getElem? (l := tables_1_1) (i := 42) rfl) rfl, List.forall_mem_cons.mpr ⟨bg_1 (List.mem_of_getElem? (l := tables_1_1) (i := 44) rfl) rfl, (fun _ h => absurd h List.not_mem_nil)⟩⟩⟩
theorem in_X5 : ∀ w ∈ u_ws RX5 TX5 4, w ∈ BG := by
  show ∀ w ∈ [Cond.laysFinal "Timesheets$Timeline" "Timesheets$Timeline" "shiftList" "LTimesheets$Shifts;", Cond.laysFinal "Timesheets$Timeline" "Timesheets$Timeline" "events" "LTimesheets$Table;", Cond.laysFinal "Timesheets$Timeline" "Timesheets$Timeline" "stretchList" "LTimesheets$Table;", Cond.lays "Timesheets$Timeline" "Timesheets$Timeline" "coveredTwice" "I"], w ∈ BG
  exact List.forall_mem_cons.mpr ⟨bg_1 (List.mem_of_getElem? (l := tables_1_1) (i := 93) rfl) rfl, List.forall_mem_cons.mpr ⟨bg_1 (List.mem_of_getElem? (l := tables_1_1) (i := 95) rfl) rfl, List.forall_mem_cons.mpr ⟨bg_1 (List.mem_of_getElem? (l := tables_1_1) (i := 97) rfl) rfl, List.forall_mem_cons.mpr ⟨bg_1 (List.mem_of_getElem? (l := tables_1_1) (i := 99) rfl) rfl, (fun _ h => absurd h List.not_mem_nil)⟩⟩⟩⟩
theorem in_X6 : ∀ w ∈ u_ws RX6 TX6 6, w ∈ BG := by
  show ∀ w ∈ [Cond.laysFinal "Timesheets" "Timesheets" "staff" "[LTimesheets$Employee;", Cond.lays "Timesheets" "Timesheets" "hired" "I", Cond.laysFinal "Timesheets" "Timesheets" "premiums" "LTimesheets$Premiums;", Cond.laysFinal "Timesheets" "Timesheets" "payroll" "LTimesheets$Payroll;", Cond.laysFinal "Timesheets" "Timesheets" "timeline" "LTimesheets$Timeline;", Cond.laysFinal "Timesheets" "Timesheets" "shiftList" "LTimesheets$Shifts;"], w ∈ BG
  exact List.forall_mem_cons.mpr ⟨bg_1 (List.mem_of_getElem? (l := tables_1_1) (i := 122) rfl) rfl, List.forall_mem_cons.mpr ⟨bg_1 (List.mem_of_getElem? (l := tables_1_1) (i := 124) rfl) rfl, List.forall_mem_cons.mpr ⟨bg_1 (List.mem_of_getElem? (l := tables_1_1) (i := 126) rfl) rfl, List.forall_mem_cons.mpr ⟨bg_1 (List.mem_of_getElem? (l := tables_1_1) (i := 128) rfl) rfl, List.forall_mem_cons.mpr ⟨bg_1 (List.mem_of_getElem? (l := tables_1_1) (i := 130) rfl) rfl, List.forall_mem_cons.mpr ⟨bg_1 (List.mem_of_getElem? (l := tables_1_1) (i := 132) rfl) rfl, (fun _ h => absurd h List.not_mem_nil)⟩⟩⟩⟩⟩⟩
end
section
theorem dX4_init_0 : decode cX4_init 0 = .ok (.aload_n 0, 1) := by decide +kernel
theorem dX4_init_1 : decode cX4_init 1 = .ok (.invokespecial 3, 3) := by decide +kernel
theorem dX4_init_4 : decode cX4_init 4 = .ok (.aload_n 0, 1) := by decide +kernel
theorem dX4_init_5 : decode cX4_init 5 = .ok (.iload_n 2, 1) := by decide +kernel
theorem dX4_init_6 : decode cX4_init 6 = .ok (.putfield 9, 3) := by decide +kernel
theorem dX4_init_9 : decode cX4_init 9 = .ok (.aload_n 0, 1) := by decide +kernel
theorem dX4_init_10 : decode cX4_init 10 = .ok (.iload_n 1, 1) := by decide +kernel
theorem dX4_init_11 : decode cX4_init 11 = .ok (.ifCond .le 13, 3) := by decide +kernel
theorem dX4_init_14 : decode cX4_init 14 = .ok (.iload_n 2, 1) := by decide +kernel
theorem dX4_init_15 : decode cX4_init 15 = .ok (.ifCond .le 9, 3) := by decide +kernel
theorem dX4_init_18 : decode cX4_init 18 = .ok (.iload_n 1, 1) := by decide +kernel
theorem dX4_init_19 : decode cX4_init 19 = .ok (.iload_n 2, 1) := by decide +kernel
theorem dX4_init_20 : decode cX4_init 20 = .ok (.imul, 1) := by decide +kernel
theorem dX4_init_21 : decode cX4_init 21 = .ok (.goto 4, 3) := by decide +kernel
theorem dX4_init_24 : decode cX4_init 24 = .ok (.iconst 0, 1) := by decide +kernel
theorem dX4_init_25 : decode cX4_init 25 = .ok (.newarray .int, 2) := by decide +kernel
theorem dX4_init_27 : decode cX4_init 27 = .ok (.putfield 15, 3) := by decide +kernel
theorem dX4_init_30 : decode cX4_init 30 = .ok (.aload_n 0, 1) := by decide +kernel
theorem dX4_init_31 : decode cX4_init 31 = .ok (.iconst 0, 1) := by decide +kernel
theorem dX4_init_32 : decode cX4_init 32 = .ok (.putfield 19, 3) := by decide +kernel
theorem dX4_init_35 : decode cX4_init 35 = .ok (.return_, 1) := by decide +kernel
theorem dX4_size_0 : decode cX4_size 0 = .ok (.aload_n 0, 1) := by decide +kernel
theorem dX4_size_1 : decode cX4_size 1 = .ok (.getfield 19, 3) := by decide +kernel
theorem dX4_size_4 : decode cX4_size 4 = .ok (.ireturn, 1) := by decide +kernel
theorem dX4_get_0 : decode cX4_get 0 = .ok (.iload_n 1, 1) := by decide +kernel
theorem dX4_get_1 : decode cX4_get 1 = .ok (.ifCond .lt 23, 3) := by decide +kernel
theorem dX4_get_4 : decode cX4_get 4 = .ok (.iload_n 1, 1) := by decide +kernel
theorem dX4_get_5 : decode cX4_get 5 = .ok (.aload_n 0, 1) := by decide +kernel
theorem dX4_get_6 : decode cX4_get 6 = .ok (.getfield 19, 3) := by decide +kernel
theorem dX4_get_9 : decode cX4_get 9 = .ok (.if_icmp .ge 15, 3) := by decide +kernel
theorem dX4_get_12 : decode cX4_get 12 = .ok (.iload_n 2, 1) := by decide +kernel
theorem dX4_get_13 : decode cX4_get 13 = .ok (.ifCond .lt 11, 3) := by decide +kernel
theorem dX4_get_16 : decode cX4_get 16 = .ok (.iload_n 2, 1) := by decide +kernel
theorem dX4_get_17 : decode cX4_get 17 = .ok (.aload_n 0, 1) := by decide +kernel
theorem dX4_get_18 : decode cX4_get 18 = .ok (.getfield 9, 3) := by decide +kernel
theorem dX4_get_21 : decode cX4_get 21 = .ok (.if_icmp .lt 5, 3) := by decide +kernel
theorem dX4_get_24 : decode cX4_get 24 = .ok (.iconst 0, 1) := by decide +kernel
theorem dX4_get_25 : decode cX4_get 25 = .ok (.ireturn, 1) := by decide +kernel
theorem dX4_get_26 : decode cX4_get 26 = .ok (.iload_n 1, 1) := by decide +kernel
theorem dX4_get_27 : decode cX4_get 27 = .ok (.aload_n 0, 1) := by decide +kernel
theorem dX4_get_28 : decode cX4_get 28 = .ok (.getfield 9, 3) := by decide +kernel
theorem dX4_get_31 : decode cX4_get 31 = .ok (.imul, 1) := by decide +kernel
theorem dX4_get_32 : decode cX4_get 32 = .ok (.iload_n 2, 1) := by decide +kernel
theorem dX4_get_33 : decode cX4_get 33 = .ok (.iadd, 1) := by decide +kernel
theorem dX4_get_34 : decode cX4_get 34 = .ok (.istore_n 3, 1) := by decide +kernel
theorem dX4_get_35 : decode cX4_get 35 = .ok (.iload_n 3, 1) := by decide +kernel
theorem dX4_get_36 : decode cX4_get 36 = .ok (.ifCond .lt 21, 3) := by decide +kernel
theorem dX4_get_39 : decode cX4_get 39 = .ok (.iload_n 3, 1) := by decide +kernel
theorem dX4_get_40 : decode cX4_get 40 = .ok (.aload_n 0, 1) := by decide +kernel
theorem dX4_get_41 : decode cX4_get 41 = .ok (.getfield 15, 3) := by decide +kernel
theorem dX4_get_44 : decode cX4_get 44 = .ok (.arraylength, 1) := by decide +kernel
theorem dX4_get_45 : decode cX4_get 45 = .ok (.if_icmp .ge 12, 3) := by decide +kernel
theorem dX4_get_48 : decode cX4_get 48 = .ok (.aload_n 0, 1) := by decide +kernel
theorem dX4_get_49 : decode cX4_get 49 = .ok (.getfield 15, 3) := by decide +kernel
theorem dX4_get_52 : decode cX4_get 52 = .ok (.iload_n 3, 1) := by decide +kernel
theorem dX4_get_53 : decode cX4_get 53 = .ok (.iaload, 1) := by decide +kernel
theorem dX4_get_54 : decode cX4_get 54 = .ok (.goto 4, 3) := by decide +kernel
theorem dX4_get_57 : decode cX4_get 57 = .ok (.iconst 0, 1) := by decide +kernel
theorem dX4_get_58 : decode cX4_get 58 = .ok (.ireturn, 1) := by decide +kernel
theorem dX4_set_0 : decode cX4_set 0 = .ok (.iload_n 1, 1) := by decide +kernel
theorem dX4_set_1 : decode cX4_set 1 = .ok (.ifCond .lt 23, 3) := by decide +kernel
theorem dX4_set_4 : decode cX4_set 4 = .ok (.iload_n 1, 1) := by decide +kernel
theorem dX4_set_5 : decode cX4_set 5 = .ok (.aload_n 0, 1) := by decide +kernel
theorem dX4_set_6 : decode cX4_set 6 = .ok (.getfield 19, 3) := by decide +kernel
theorem dX4_set_9 : decode cX4_set 9 = .ok (.if_icmp .ge 15, 3) := by decide +kernel
theorem dX4_set_12 : decode cX4_set 12 = .ok (.iload_n 2, 1) := by decide +kernel
theorem dX4_set_13 : decode cX4_set 13 = .ok (.ifCond .lt 11, 3) := by decide +kernel
theorem dX4_set_16 : decode cX4_set 16 = .ok (.iload_n 2, 1) := by decide +kernel
theorem dX4_set_17 : decode cX4_set 17 = .ok (.aload_n 0, 1) := by decide +kernel
theorem dX4_set_18 : decode cX4_set 18 = .ok (.getfield 9, 3) := by decide +kernel
theorem dX4_set_21 : decode cX4_set 21 = .ok (.if_icmp .lt 4, 3) := by decide +kernel
theorem dX4_set_24 : decode cX4_set 24 = .ok (.return_, 1) := by decide +kernel
theorem dX4_set_25 : decode cX4_set 25 = .ok (.iload_n 1, 1) := by decide +kernel
theorem dX4_set_26 : decode cX4_set 26 = .ok (.aload_n 0, 1) := by decide +kernel
theorem dX4_set_27 : decode cX4_set 27 = .ok (.getfield 9, 3) := by decide +kernel
theorem dX4_set_30 : decode cX4_set 30 = .ok (.imul, 1) := by decide +kernel
theorem dX4_set_31 : decode cX4_set 31 = .ok (.iload_n 2, 1) := by decide +kernel
theorem dX4_set_32 : decode cX4_set 32 = .ok (.iadd, 1) := by decide +kernel
theorem dX4_set_33 : decode cX4_set 33 = .ok (.istore 4, 2) := by decide +kernel
theorem dX4_set_35 : decode cX4_set 35 = .ok (.iload 4, 2) := by decide +kernel
theorem dX4_set_37 : decode cX4_set 37 = .ok (.ifCond .lt 21, 3) := by decide +kernel
theorem dX4_set_40 : decode cX4_set 40 = .ok (.iload 4, 2) := by decide +kernel
theorem dX4_set_42 : decode cX4_set 42 = .ok (.aload_n 0, 1) := by decide +kernel
theorem dX4_set_43 : decode cX4_set 43 = .ok (.getfield 15, 3) := by decide +kernel
theorem dX4_set_46 : decode cX4_set 46 = .ok (.arraylength, 1) := by decide +kernel
theorem dX4_set_47 : decode cX4_set 47 = .ok (.if_icmp .ge 11, 3) := by decide +kernel
theorem dX4_set_50 : decode cX4_set 50 = .ok (.aload_n 0, 1) := by decide +kernel
theorem dX4_set_51 : decode cX4_set 51 = .ok (.getfield 15, 3) := by decide +kernel
theorem dX4_set_54 : decode cX4_set 54 = .ok (.iload 4, 2) := by decide +kernel
theorem dX4_set_56 : decode cX4_set 56 = .ok (.iload_n 3, 1) := by decide +kernel
theorem dX4_set_57 : decode cX4_set 57 = .ok (.iastore, 1) := by decide +kernel
theorem dX4_set_58 : decode cX4_set 58 = .ok (.return_, 1) := by decide +kernel
theorem dX4_insert_0 : decode cX4_insert 0 = .ok (.iload_n 1, 1) := by decide +kernel
theorem dX4_insert_1 : decode cX4_insert 1 = .ok (.ifCond .lt 30, 3) := by decide +kernel
theorem dX4_insert_4 : decode cX4_insert 4 = .ok (.iload_n 1, 1) := by decide +kernel
theorem dX4_insert_5 : decode cX4_insert 5 = .ok (.aload_n 0, 1) := by decide +kernel
theorem dX4_insert_6 : decode cX4_insert 6 = .ok (.getfield 19, 3) := by decide +kernel
theorem dX4_insert_9 : decode cX4_insert 9 = .ok (.if_icmp .gt 22, 3) := by decide +kernel
theorem dX4_insert_12 : decode cX4_insert 12 = .ok (.aload_n 0, 1) := by decide +kernel
theorem dX4_insert_13 : decode cX4_insert 13 = .ok (.getfield 19, 3) := by decide +kernel
theorem dX4_insert_16 : decode cX4_insert 16 = .ok (.iconst 1, 1) := by decide +kernel
theorem dX4_insert_17 : decode cX4_insert 17 = .ok (.iadd, 1) := by decide +kernel
theorem dX4_insert_18 : decode cX4_insert 18 = .ok (.aload_n 0, 1) := by decide +kernel
theorem dX4_insert_19 : decode cX4_insert 19 = .ok (.getfield 9, 3) := by decide +kernel
theorem dX4_insert_22 : decode cX4_insert 22 = .ok (.imul, 1) := by decide +kernel
theorem dX4_insert_23 : decode cX4_insert 23 = .ok (.aload_n 0, 1) := by decide +kernel
theorem dX4_insert_24 : decode cX4_insert 24 = .ok (.getfield 15, 3) := by decide +kernel
theorem dX4_insert_27 : decode cX4_insert 27 = .ok (.arraylength, 1) := by decide +kernel
theorem dX4_insert_28 : decode cX4_insert 28 = .ok (.if_icmp .le 4, 3) := by decide +kernel
theorem dX4_insert_31 : decode cX4_insert 31 = .ok (.return_, 1) := by decide +kernel
theorem dX4_insert_32 : decode cX4_insert 32 = .ok (.aload_n 0, 1) := by decide +kernel
theorem dX4_insert_33 : decode cX4_insert 33 = .ok (.getfield 19, 3) := by decide +kernel
theorem dX4_insert_36 : decode cX4_insert 36 = .ok (.iconst 1, 1) := by decide +kernel
theorem dX4_insert_37 : decode cX4_insert 37 = .ok (.iadd, 1) := by decide +kernel
theorem dX4_insert_38 : decode cX4_insert 38 = .ok (.aload_n 0, 1) := by decide +kernel
theorem dX4_insert_39 : decode cX4_insert 39 = .ok (.getfield 9, 3) := by decide +kernel
theorem dX4_insert_42 : decode cX4_insert 42 = .ok (.imul, 1) := by decide +kernel
theorem dX4_insert_43 : decode cX4_insert 43 = .ok (.iconst 1, 1) := by decide +kernel
theorem dX4_insert_44 : decode cX4_insert 44 = .ok (.isub, 1) := by decide +kernel
theorem dX4_insert_45 : decode cX4_insert 45 = .ok (.istore_n 2, 1) := by decide +kernel
theorem dX4_insert_46 : decode cX4_insert 46 = .ok (.iload_n 2, 1) := by decide +kernel
theorem dX4_insert_47 : decode cX4_insert 47 = .ok (.iload_n 1, 1) := by decide +kernel
theorem dX4_insert_48 : decode cX4_insert 48 = .ok (.iconst 1, 1) := by decide +kernel
theorem dX4_insert_49 : decode cX4_insert 49 = .ok (.iadd, 1) := by decide +kernel
theorem dX4_insert_50 : decode cX4_insert 50 = .ok (.aload_n 0, 1) := by decide +kernel
theorem dX4_insert_51 : decode cX4_insert 51 = .ok (.getfield 9, 3) := by decide +kernel
theorem dX4_insert_54 : decode cX4_insert 54 = .ok (.imul, 1) := by decide +kernel
theorem dX4_insert_55 : decode cX4_insert 55 = .ok (.if_icmp .lt 26, 3) := by decide +kernel
theorem dX4_insert_58 : decode cX4_insert 58 = .ok (.aload_n 0, 1) := by decide +kernel
theorem dX4_insert_59 : decode cX4_insert 59 = .ok (.getfield 15, 3) := by decide +kernel
theorem dX4_insert_62 : decode cX4_insert 62 = .ok (.iload_n 2, 1) := by decide +kernel
theorem dX4_insert_63 : decode cX4_insert 63 = .ok (.aload_n 0, 1) := by decide +kernel
theorem dX4_insert_64 : decode cX4_insert 64 = .ok (.getfield 15, 3) := by decide +kernel
theorem dX4_insert_67 : decode cX4_insert 67 = .ok (.iload_n 2, 1) := by decide +kernel
theorem dX4_insert_68 : decode cX4_insert 68 = .ok (.aload_n 0, 1) := by decide +kernel
theorem dX4_insert_69 : decode cX4_insert 69 = .ok (.getfield 9, 3) := by decide +kernel
theorem dX4_insert_72 : decode cX4_insert 72 = .ok (.isub, 1) := by decide +kernel
theorem dX4_insert_73 : decode cX4_insert 73 = .ok (.iaload, 1) := by decide +kernel
theorem dX4_insert_74 : decode cX4_insert 74 = .ok (.iastore, 1) := by decide +kernel
theorem dX4_insert_75 : decode cX4_insert 75 = .ok (.iinc 2 (-1), 3) := by decide +kernel
theorem dX4_insert_78 : decode cX4_insert 78 = .ok (.goto (-32), 3) := by decide +kernel
theorem dX4_insert_81 : decode cX4_insert 81 = .ok (.aload_n 0, 1) := by decide +kernel
theorem dX4_insert_82 : decode cX4_insert 82 = .ok (.dup, 1) := by decide +kernel
theorem dX4_insert_83 : decode cX4_insert 83 = .ok (.getfield 19, 3) := by decide +kernel
theorem dX4_insert_86 : decode cX4_insert 86 = .ok (.iconst 1, 1) := by decide +kernel
theorem dX4_insert_87 : decode cX4_insert 87 = .ok (.iadd, 1) := by decide +kernel
theorem dX4_insert_88 : decode cX4_insert 88 = .ok (.putfield 19, 3) := by decide +kernel
theorem dX4_insert_91 : decode cX4_insert 91 = .ok (.return_, 1) := by decide +kernel
theorem dX4_addSpan_0 : decode cX4_addSpan 0 = .ok (.aload_n 0, 1) := by decide +kernel
theorem dX4_addSpan_1 : decode cX4_addSpan 1 = .ok (.getfield 19, 3) := by decide +kernel
theorem dX4_addSpan_4 : decode cX4_addSpan 4 = .ok (.istore_n 3, 1) := by decide +kernel
theorem dX4_addSpan_5 : decode cX4_addSpan 5 = .ok (.aload_n 0, 1) := by decide +kernel
theorem dX4_addSpan_6 : decode cX4_addSpan 6 = .ok (.iload_n 3, 1) := by decide +kernel
theorem dX4_addSpan_7 : decode cX4_addSpan 7 = .ok (.invokevirtual 22, 3) := by decide +kernel
theorem dX4_addSpan_10 : decode cX4_addSpan 10 = .ok (.aload_n 0, 1) := by decide +kernel
theorem dX4_addSpan_11 : decode cX4_addSpan 11 = .ok (.iload_n 3, 1) := by decide +kernel
theorem dX4_addSpan_12 : decode cX4_addSpan 12 = .ok (.iconst 0, 1) := by decide +kernel
theorem dX4_addSpan_13 : decode cX4_addSpan 13 = .ok (.iload_n 1, 1) := by decide +kernel
theorem dX4_addSpan_14 : decode cX4_addSpan 14 = .ok (.invokevirtual 26, 3) := by decide +kernel
theorem dX4_addSpan_17 : decode cX4_addSpan 17 = .ok (.aload_n 0, 1) := by decide +kernel
theorem dX4_addSpan_18 : decode cX4_addSpan 18 = .ok (.iload_n 3, 1) := by decide +kernel
theorem dX4_addSpan_19 : decode cX4_addSpan 19 = .ok (.iconst 1, 1) := by decide +kernel
theorem dX4_addSpan_20 : decode cX4_addSpan 20 = .ok (.iload_n 2, 1) := by decide +kernel
theorem dX4_addSpan_21 : decode cX4_addSpan 21 = .ok (.invokevirtual 26, 3) := by decide +kernel
theorem dX4_addSpan_24 : decode cX4_addSpan 24 = .ok (.return_, 1) := by decide +kernel
theorem dX4_clear_0 : decode cX4_clear 0 = .ok (.aload_n 0, 1) := by decide +kernel
theorem dX4_clear_1 : decode cX4_clear 1 = .ok (.iconst 0, 1) := by decide +kernel
theorem dX4_clear_2 : decode cX4_clear 2 = .ok (.putfield 19, 3) := by decide +kernel
theorem dX4_clear_5 : decode cX4_clear 5 = .ok (.return_, 1) := by decide +kernel
theorem dX0_init_0 : decode cX0_init 0 = .ok (.aload_n 0, 1) := by decide +kernel
theorem dX0_init_1 : decode cX0_init 1 = .ok (.invokespecial 3, 3) := by decide +kernel
theorem dX0_init_4 : decode cX0_init 4 = .ok (.aload_n 0, 1) := by decide +kernel
theorem dX0_init_5 : decode cX0_init 5 = .ok (.iload_n 1, 1) := by decide +kernel
theorem dX0_init_6 : decode cX0_init 6 = .ok (.putfield 9, 3) := by decide +kernel
theorem dX0_init_9 : decode cX0_init 9 = .ok (.aload_n 0, 1) := by decide +kernel
theorem dX0_init_10 : decode cX0_init 10 = .ok (.iconst 0, 1) := by decide +kernel
theorem dX0_init_11 : decode cX0_init 11 = .ok (.putfield 15, 3) := by decide +kernel
theorem dX0_init_14 : decode cX0_init 14 = .ok (.aload_n 0, 1) := by decide +kernel
theorem dX0_init_15 : decode cX0_init 15 = .ok (.lconst 0, 1) := by decide +kernel
theorem dX0_init_16 : decode cX0_init 16 = .ok (.putfield 18, 3) := by decide +kernel
theorem dX0_init_19 : decode cX0_init 19 = .ok (.aload_n 0, 1) := by decide +kernel
theorem dX0_init_20 : decode cX0_init 20 = .ok (.new 22, 3) := by decide +kernel
theorem dX0_init_23 : decode cX0_init 23 = .ok (.dup, 1) := by decide +kernel
theorem dX0_init_24 : decode cX0_init 24 = .ok (.bipush 40, 2) := by decide +kernel
theorem dX0_init_26 : decode cX0_init 26 = .ok (.iconst 2, 1) := by decide +kernel
theorem dX0_init_27 : decode cX0_init 27 = .ok (.invokespecial 24, 3) := by decide +kernel
theorem dX0_init_30 : decode cX0_init 30 = .ok (.putfield 27, 3) := by decide +kernel
theorem dX0_init_33 : decode cX0_init 33 = .ok (.aload_n 0, 1) := by decide +kernel
theorem dX0_init_34 : decode cX0_init 34 = .ok (.new 22, 3) := by decide +kernel
theorem dX0_init_37 : decode cX0_init 37 = .ok (.dup, 1) := by decide +kernel
theorem dX0_init_38 : decode cX0_init 38 = .ok (.bipush 20, 2) := by decide +kernel
theorem dX0_init_40 : decode cX0_init 40 = .ok (.iconst 2, 1) := by decide +kernel
theorem dX0_init_41 : decode cX0_init 41 = .ok (.invokespecial 24, 3) := by decide +kernel
theorem dX0_init_44 : decode cX0_init 44 = .ok (.putfield 31, 3) := by decide +kernel
theorem dX0_init_47 : decode cX0_init 47 = .ok (.aload_n 0, 1) := by decide +kernel
theorem dX0_init_48 : decode cX0_init 48 = .ok (.new 22, 3) := by decide +kernel
theorem dX0_init_51 : decode cX0_init 51 = .ok (.dup, 1) := by decide +kernel
theorem dX0_init_52 : decode cX0_init 52 = .ok (.bipush 20, 2) := by decide +kernel
theorem dX0_init_54 : decode cX0_init 54 = .ok (.iconst 2, 1) := by decide +kernel
theorem dX0_init_55 : decode cX0_init 55 = .ok (.invokespecial 24, 3) := by decide +kernel
theorem dX0_init_58 : decode cX0_init 58 = .ok (.putfield 34, 3) := by decide +kernel
theorem dX0_init_61 : decode cX0_init 61 = .ok (.return_, 1) := by decide +kernel
theorem dX0_beginNextWeek_0 : decode cX0_beginNextWeek 0 = .ok (.aload_n 0, 1) := by decide +kernel
theorem dX0_beginNextWeek_1 : decode cX0_beginNextWeek 1 = .ok (.dup, 1) := by decide +kernel
theorem dX0_beginNextWeek_2 : decode cX0_beginNextWeek 2 = .ok (.getfield 18, 3) := by decide +kernel
theorem dX0_beginNextWeek_5 : decode cX0_beginNextWeek 5 = .ok (.iload_n 1, 1) := by decide +kernel
theorem dX0_beginNextWeek_6 : decode cX0_beginNextWeek 6 = .ok (.i2l, 1) := by decide +kernel
theorem dX0_beginNextWeek_7 : decode cX0_beginNextWeek 7 = .ok (.ladd, 1) := by decide +kernel
theorem dX0_beginNextWeek_8 : decode cX0_beginNextWeek 8 = .ok (.putfield 18, 3) := by decide +kernel
theorem dX0_beginNextWeek_11 : decode cX0_beginNextWeek 11 = .ok (.aload_n 0, 1) := by decide +kernel
theorem dX0_beginNextWeek_12 : decode cX0_beginNextWeek 12 = .ok (.dup, 1) := by decide +kernel
theorem dX0_beginNextWeek_13 : decode cX0_beginNextWeek 13 = .ok (.getfield 15, 3) := by decide +kernel
theorem dX0_beginNextWeek_16 : decode cX0_beginNextWeek 16 = .ok (.iconst 1, 1) := by decide +kernel
theorem dX0_beginNextWeek_17 : decode cX0_beginNextWeek 17 = .ok (.iadd, 1) := by decide +kernel
theorem dX0_beginNextWeek_18 : decode cX0_beginNextWeek 18 = .ok (.putfield 15, 3) := by decide +kernel
theorem dX0_beginNextWeek_21 : decode cX0_beginNextWeek 21 = .ok (.aload_n 0, 1) := by decide +kernel
theorem dX0_beginNextWeek_22 : decode cX0_beginNextWeek 22 = .ok (.getfield 27, 3) := by decide +kernel
theorem dX0_beginNextWeek_25 : decode cX0_beginNextWeek 25 = .ok (.invokevirtual 37, 3) := by decide +kernel
theorem dX0_beginNextWeek_28 : decode cX0_beginNextWeek 28 = .ok (.aload_n 0, 1) := by decide +kernel
theorem dX0_beginNextWeek_29 : decode cX0_beginNextWeek 29 = .ok (.getfield 31, 3) := by decide +kernel
theorem dX0_beginNextWeek_32 : decode cX0_beginNextWeek 32 = .ok (.invokevirtual 37, 3) := by decide +kernel
theorem dX0_beginNextWeek_35 : decode cX0_beginNextWeek 35 = .ok (.aload_n 0, 1) := by decide +kernel
theorem dX0_beginNextWeek_36 : decode cX0_beginNextWeek 36 = .ok (.getfield 34, 3) := by decide +kernel
theorem dX0_beginNextWeek_39 : decode cX0_beginNextWeek 39 = .ok (.invokevirtual 37, 3) := by decide +kernel
theorem dX0_beginNextWeek_42 : decode cX0_beginNextWeek 42 = .ok (.return_, 1) := by decide +kernel
theorem dX2_init_0 : decode cX2_init 0 = .ok (.aload_n 0, 1) := by decide +kernel
theorem dX2_init_1 : decode cX2_init 1 = .ok (.invokespecial 3, 3) := by decide +kernel
theorem dX2_init_4 : decode cX2_init 4 = .ok (.aload_n 0, 1) := by decide +kernel
theorem dX2_init_5 : decode cX2_init 5 = .ok (.new 9, 3) := by decide +kernel
theorem dX2_init_8 : decode cX2_init 8 = .ok (.dup, 1) := by decide +kernel
theorem dX2_init_9 : decode cX2_init 9 = .ok (.bipush 6, 2) := by decide +kernel
theorem dX2_init_11 : decode cX2_init 11 = .ok (.iconst 4, 1) := by decide +kernel
theorem dX2_init_12 : decode cX2_init 12 = .ok (.invokespecial 11, 3) := by decide +kernel
theorem dX2_init_15 : decode cX2_init 15 = .ok (.putfield 14, 3) := by decide +kernel
theorem dX2_init_18 : decode cX2_init 18 = .ok (.return_, 1) := by decide +kernel
theorem dX2_add_0 : decode cX2_add 0 = .ok (.aload_n 0, 1) := by decide +kernel
theorem dX2_add_1 : decode cX2_add 1 = .ok (.getfield 14, 3) := by decide +kernel
theorem dX2_add_4 : decode cX2_add 4 = .ok (.invokevirtual 20, 3) := by decide +kernel
theorem dX2_add_7 : decode cX2_add 7 = .ok (.istore 5, 2) := by decide +kernel
theorem dX2_add_9 : decode cX2_add 9 = .ok (.aload_n 0, 1) := by decide +kernel
theorem dX2_add_10 : decode cX2_add 10 = .ok (.getfield 14, 3) := by decide +kernel
theorem dX2_add_13 : decode cX2_add 13 = .ok (.iload 5, 2) := by decide +kernel
theorem dX2_add_15 : decode cX2_add 15 = .ok (.invokevirtual 24, 3) := by decide +kernel
theorem dX2_add_18 : decode cX2_add 18 = .ok (.aload_n 0, 1) := by decide +kernel
theorem dX2_add_19 : decode cX2_add 19 = .ok (.getfield 14, 3) := by decide +kernel
theorem dX2_add_22 : decode cX2_add 22 = .ok (.iload 5, 2) := by decide +kernel
theorem dX2_add_24 : decode cX2_add 24 = .ok (.iconst 0, 1) := by decide +kernel
theorem dX2_add_25 : decode cX2_add 25 = .ok (.iload_n 1, 1) := by decide +kernel
theorem dX2_add_26 : decode cX2_add 26 = .ok (.invokevirtual 28, 3) := by decide +kernel
theorem dX2_add_29 : decode cX2_add 29 = .ok (.aload_n 0, 1) := by decide +kernel
theorem dX2_add_30 : decode cX2_add 30 = .ok (.getfield 14, 3) := by decide +kernel
theorem dX2_add_33 : decode cX2_add 33 = .ok (.iload 5, 2) := by decide +kernel
theorem dX2_add_35 : decode cX2_add 35 = .ok (.iconst 1, 1) := by decide +kernel
theorem dX2_add_36 : decode cX2_add 36 = .ok (.iload_n 2, 1) := by decide +kernel
theorem dX2_add_37 : decode cX2_add 37 = .ok (.invokevirtual 28, 3) := by decide +kernel
theorem dX2_add_40 : decode cX2_add 40 = .ok (.aload_n 0, 1) := by decide +kernel
theorem dX2_add_41 : decode cX2_add 41 = .ok (.getfield 14, 3) := by decide +kernel
theorem dX2_add_44 : decode cX2_add 44 = .ok (.iload 5, 2) := by decide +kernel
theorem dX2_add_46 : decode cX2_add 46 = .ok (.iconst 2, 1) := by decide +kernel
theorem dX2_add_47 : decode cX2_add 47 = .ok (.iload_n 3, 1) := by decide +kernel
theorem dX2_add_48 : decode cX2_add 48 = .ok (.invokevirtual 28, 3) := by decide +kernel
theorem dX2_add_51 : decode cX2_add 51 = .ok (.aload_n 0, 1) := by decide +kernel
theorem dX2_add_52 : decode cX2_add 52 = .ok (.getfield 14, 3) := by decide +kernel
theorem dX2_add_55 : decode cX2_add 55 = .ok (.iload 5, 2) := by decide +kernel
theorem dX2_add_57 : decode cX2_add 57 = .ok (.iconst 3, 1) := by decide +kernel
theorem dX2_add_58 : decode cX2_add 58 = .ok (.iload 4, 2) := by decide +kernel
theorem dX2_add_60 : decode cX2_add 60 = .ok (.invokevirtual 28, 3) := by decide +kernel
theorem dX2_add_63 : decode cX2_add 63 = .ok (.iload 5, 2) := by decide +kernel
theorem dX2_add_65 : decode cX2_add 65 = .ok (.ireturn, 1) := by decide +kernel
theorem dX2_payFor_0 : decode cX2_payFor 0 = .ok (.iconst 0, 1) := by decide +kernel
theorem dX2_payFor_1 : decode cX2_payFor 1 = .ok (.istore_n 2, 1) := by decide +kernel
theorem dX2_payFor_2 : decode cX2_payFor 2 = .ok (.iconst 0, 1) := by decide +kernel
theorem dX2_payFor_3 : decode cX2_payFor 3 = .ok (.istore_n 3, 1) := by decide +kernel
theorem dX2_payFor_4 : decode cX2_payFor 4 = .ok (.iload_n 3, 1) := by decide +kernel
theorem dX2_payFor_5 : decode cX2_payFor 5 = .ok (.aload_n 1, 1) := by decide +kernel
theorem dX2_payFor_6 : decode cX2_payFor 6 = .ok (.invokevirtual 20, 3) := by decide +kernel
theorem dX2_payFor_9 : decode cX2_payFor 9 = .ok (.if_icmp .ge 28, 3) := by decide +kernel
theorem dX2_payFor_12 : decode cX2_payFor 12 = .ok (.iload_n 2, 1) := by decide +kernel
theorem dX2_payFor_13 : decode cX2_payFor 13 = .ok (.aload_n 0, 1) := by decide +kernel
theorem dX2_payFor_14 : decode cX2_payFor 14 = .ok (.aload_n 1, 1) := by decide +kernel
theorem dX2_payFor_15 : decode cX2_payFor 15 = .ok (.iload_n 3, 1) := by decide +kernel
theorem dX2_payFor_16 : decode cX2_payFor 16 = .ok (.iconst 0, 1) := by decide +kernel
theorem dX2_payFor_17 : decode cX2_payFor 17 = .ok (.invokevirtual 32, 3) := by decide +kernel
theorem dX2_payFor_20 : decode cX2_payFor 20 = .ok (.aload_n 1, 1) := by decide +kernel
theorem dX2_payFor_21 : decode cX2_payFor 21 = .ok (.iload_n 3, 1) := by decide +kernel
theorem dX2_payFor_22 : decode cX2_payFor 22 = .ok (.iconst 1, 1) := by decide +kernel
theorem dX2_payFor_23 : decode cX2_payFor 23 = .ok (.invokevirtual 32, 3) := by decide +kernel
theorem dX2_payFor_26 : decode cX2_payFor 26 = .ok (.invokevirtual 36, 3) := by decide +kernel
theorem dX2_payFor_29 : decode cX2_payFor 29 = .ok (.iadd, 1) := by decide +kernel
theorem dX2_payFor_30 : decode cX2_payFor 30 = .ok (.istore_n 2, 1) := by decide +kernel
theorem dX2_payFor_31 : decode cX2_payFor 31 = .ok (.iinc 3 1, 3) := by decide +kernel
theorem dX2_payFor_34 : decode cX2_payFor 34 = .ok (.goto (-30), 3) := by decide +kernel
theorem dX2_payFor_37 : decode cX2_payFor 37 = .ok (.iload_n 2, 1) := by decide +kernel
theorem dX2_payFor_38 : decode cX2_payFor 38 = .ok (.bipush 30, 2) := by decide +kernel
theorem dX2_payFor_40 : decode cX2_payFor 40 = .ok (.iadd, 1) := by decide +kernel
theorem dX2_payFor_41 : decode cX2_payFor 41 = .ok (.bipush 60, 2) := by decide +kernel
theorem dX2_payFor_43 : decode cX2_payFor 43 = .ok (.idiv, 1) := by decide +kernel
theorem dX2_payFor_44 : decode cX2_payFor 44 = .ok (.ireturn, 1) := by decide +kernel
theorem dX2_sumOver_0 : decode cX2_sumOver 0 = .ok (.iconst 0, 1) := by decide +kernel
theorem dX2_sumOver_1 : decode cX2_sumOver 1 = .ok (.istore_n 3, 1) := by decide +kernel
theorem dX2_sumOver_2 : decode cX2_sumOver 2 = .ok (.iload_n 1, 1) := by decide +kernel
theorem dX2_sumOver_3 : decode cX2_sumOver 3 = .ok (.istore 4, 2) := by decide +kernel
theorem dX2_sumOver_5 : decode cX2_sumOver 5 = .ok (.iconst 0, 1) := by decide +kernel
theorem dX2_sumOver_6 : decode cX2_sumOver 6 = .ok (.istore 5, 2) := by decide +kernel
theorem dX2_sumOver_8 : decode cX2_sumOver 8 = .ok (.iload 5, 2) := by decide +kernel
theorem dX2_sumOver_10 : decode cX2_sumOver 10 = .ok (.sipush 1440, 3) := by decide +kernel
theorem dX2_sumOver_13 : decode cX2_sumOver 13 = .ok (.if_icmp .ge 71, 3) := by decide +kernel
theorem dX2_sumOver_16 : decode cX2_sumOver 16 = .ok (.iload 4, 2) := by decide +kernel
theorem dX2_sumOver_18 : decode cX2_sumOver 18 = .ok (.iload_n 2, 1) := by decide +kernel
theorem dX2_sumOver_19 : decode cX2_sumOver 19 = .ok (.if_icmp .ge 65, 3) := by decide +kernel
theorem dX2_sumOver_22 : decode cX2_sumOver 22 = .ok (.iload 4, 2) := by decide +kernel
theorem dX2_sumOver_24 : decode cX2_sumOver 24 = .ok (.sipush 1440, 3) := by decide +kernel
theorem dX2_sumOver_27 : decode cX2_sumOver 27 = .ok (.idiv, 1) := by decide +kernel
theorem dX2_sumOver_28 : decode cX2_sumOver 28 = .ok (.istore 6, 2) := by decide +kernel
theorem dX2_sumOver_30 : decode cX2_sumOver 30 = .ok (.iload_n 2, 1) := by decide +kernel
theorem dX2_sumOver_31 : decode cX2_sumOver 31 = .ok (.iload 6, 2) := by decide +kernel
theorem dX2_sumOver_33 : decode cX2_sumOver 33 = .ok (.sipush 1440, 3) := by decide +kernel
theorem dX2_sumOver_36 : decode cX2_sumOver 36 = .ok (.imul, 1) := by decide +kernel
theorem dX2_sumOver_37 : decode cX2_sumOver 37 = .ok (.aload_n 0, 1) := by decide +kernel
theorem dX2_sumOver_38 : decode cX2_sumOver 38 = .ok (.iload 4, 2) := by decide +kernel
theorem dX2_sumOver_40 : decode cX2_sumOver 40 = .ok (.sipush 1440, 3) := by decide +kernel
theorem dX2_sumOver_43 : decode cX2_sumOver 43 = .ok (.irem, 1) := by decide +kernel
theorem dX2_sumOver_44 : decode cX2_sumOver 44 = .ok (.invokevirtual 39, 3) := by decide +kernel
theorem dX2_sumOver_47 : decode cX2_sumOver 47 = .ok (.iadd, 1) := by decide +kernel
theorem dX2_sumOver_48 : decode cX2_sumOver 48 = .ok (.invokestatic 43, 3) := by decide +kernel
theorem dX2_sumOver_51 : decode cX2_sumOver 51 = .ok (.istore 7, 2) := by decide +kernel
theorem dX2_sumOver_53 : decode cX2_sumOver 53 = .ok (.iload_n 3, 1) := by decide +kernel
theorem dX2_sumOver_54 : decode cX2_sumOver 54 = .ok (.aload_n 0, 1) := by decide +kernel
theorem dX2_sumOver_55 : decode cX2_sumOver 55 = .ok (.iload 6, 2) := by decide +kernel
theorem dX2_sumOver_57 : decode cX2_sumOver 57 = .ok (.iload 4, 2) := by decide +kernel
theorem dX2_sumOver_59 : decode cX2_sumOver 59 = .ok (.sipush 1440, 3) := by decide +kernel
theorem dX2_sumOver_62 : decode cX2_sumOver 62 = .ok (.irem, 1) := by decide +kernel
theorem dX2_sumOver_63 : decode cX2_sumOver 63 = .ok (.invokevirtual 48, 3) := by decide +kernel
theorem dX2_sumOver_66 : decode cX2_sumOver 66 = .ok (.iload 7, 2) := by decide +kernel
theorem dX2_sumOver_68 : decode cX2_sumOver 68 = .ok (.iload 4, 2) := by decide +kernel
theorem dX2_sumOver_70 : decode cX2_sumOver 70 = .ok (.isub, 1) := by decide +kernel
theorem dX2_sumOver_71 : decode cX2_sumOver 71 = .ok (.imul, 1) := by decide +kernel
theorem dX2_sumOver_72 : decode cX2_sumOver 72 = .ok (.iadd, 1) := by decide +kernel
theorem dX2_sumOver_73 : decode cX2_sumOver 73 = .ok (.istore_n 3, 1) := by decide +kernel
theorem dX2_sumOver_74 : decode cX2_sumOver 74 = .ok (.iload 7, 2) := by decide +kernel
theorem dX2_sumOver_76 : decode cX2_sumOver 76 = .ok (.istore 4, 2) := by decide +kernel
theorem dX2_sumOver_78 : decode cX2_sumOver 78 = .ok (.iinc 5 1, 3) := by decide +kernel
theorem dX2_sumOver_81 : decode cX2_sumOver 81 = .ok (.goto (-73), 3) := by decide +kernel
theorem dX2_sumOver_84 : decode cX2_sumOver 84 = .ok (.iload_n 3, 1) := by decide +kernel
theorem dX2_sumOver_85 : decode cX2_sumOver 85 = .ok (.ireturn, 1) := by decide +kernel
theorem dX2_nextChange_0 : decode cX2_nextChange 0 = .ok (.sipush 1440, 3) := by decide +kernel
theorem dX2_nextChange_3 : decode cX2_nextChange 3 = .ok (.istore_n 2, 1) := by decide +kernel
theorem dX2_nextChange_4 : decode cX2_nextChange 4 = .ok (.iconst 0, 1) := by decide +kernel
theorem dX2_nextChange_5 : decode cX2_nextChange 5 = .ok (.istore_n 3, 1) := by decide +kernel
theorem dX2_nextChange_6 : decode cX2_nextChange 6 = .ok (.iload_n 3, 1) := by decide +kernel
theorem dX2_nextChange_7 : decode cX2_nextChange 7 = .ok (.aload_n 0, 1) := by decide +kernel
theorem dX2_nextChange_8 : decode cX2_nextChange 8 = .ok (.getfield 14, 3) := by decide +kernel
theorem dX2_nextChange_11 : decode cX2_nextChange 11 = .ok (.invokevirtual 20, 3) := by decide +kernel
theorem dX2_nextChange_14 : decode cX2_nextChange 14 = .ok (.if_icmp .ge 65, 3) := by decide +kernel
theorem dX2_nextChange_17 : decode cX2_nextChange 17 = .ok (.aload_n 0, 1) := by decide +kernel
theorem dX2_nextChange_18 : decode cX2_nextChange 18 = .ok (.getfield 14, 3) := by decide +kernel
theorem dX2_nextChange_21 : decode cX2_nextChange 21 = .ok (.iload_n 3, 1) := by decide +kernel
theorem dX2_nextChange_22 : decode cX2_nextChange 22 = .ok (.iconst 1, 1) := by decide +kernel
theorem dX2_nextChange_23 : decode cX2_nextChange 23 = .ok (.invokevirtual 32, 3) := by decide +kernel
theorem dX2_nextChange_26 : decode cX2_nextChange 26 = .ok (.istore 4, 2) := by decide +kernel
theorem dX2_nextChange_28 : decode cX2_nextChange 28 = .ok (.aload_n 0, 1) := by decide +kernel
theorem dX2_nextChange_29 : decode cX2_nextChange 29 = .ok (.getfield 14, 3) := by decide +kernel
theorem dX2_nextChange_32 : decode cX2_nextChange 32 = .ok (.iload_n 3, 1) := by decide +kernel
theorem dX2_nextChange_33 : decode cX2_nextChange 33 = .ok (.iconst 2, 1) := by decide +kernel
theorem dX2_nextChange_34 : decode cX2_nextChange 34 = .ok (.invokevirtual 32, 3) := by decide +kernel
theorem dX2_nextChange_37 : decode cX2_nextChange 37 = .ok (.istore 5, 2) := by decide +kernel
theorem dX2_nextChange_39 : decode cX2_nextChange 39 = .ok (.iload 4, 2) := by decide +kernel
theorem dX2_nextChange_41 : decode cX2_nextChange 41 = .ok (.iload_n 1, 1) := by decide +kernel
theorem dX2_nextChange_42 : decode cX2_nextChange 42 = .ok (.if_icmp .le 12, 3) := by decide +kernel
theorem dX2_nextChange_45 : decode cX2_nextChange 45 = .ok (.iload_n 2, 1) := by decide +kernel
theorem dX2_nextChange_46 : decode cX2_nextChange 46 = .ok (.iload 4, 2) := by decide +kernel
theorem dX2_nextChange_48 : decode cX2_nextChange 48 = .ok (.invokestatic 43, 3) := by decide +kernel
theorem dX2_nextChange_51 : decode cX2_nextChange 51 = .ok (.goto 4, 3) := by decide +kernel
theorem dX2_nextChange_54 : decode cX2_nextChange 54 = .ok (.iload_n 2, 1) := by decide +kernel
theorem dX2_nextChange_55 : decode cX2_nextChange 55 = .ok (.istore_n 2, 1) := by decide +kernel
theorem dX2_nextChange_56 : decode cX2_nextChange 56 = .ok (.iload 5, 2) := by decide +kernel
theorem dX2_nextChange_58 : decode cX2_nextChange 58 = .ok (.iload_n 1, 1) := by decide +kernel
theorem dX2_nextChange_59 : decode cX2_nextChange 59 = .ok (.if_icmp .le 12, 3) := by decide +kernel
theorem dX2_nextChange_62 : decode cX2_nextChange 62 = .ok (.iload_n 2, 1) := by decide +kernel
theorem dX2_nextChange_63 : decode cX2_nextChange 63 = .ok (.iload 5, 2) := by decide +kernel
theorem dX2_nextChange_65 : decode cX2_nextChange 65 = .ok (.invokestatic 43, 3) := by decide +kernel
theorem dX2_nextChange_68 : decode cX2_nextChange 68 = .ok (.goto 4, 3) := by decide +kernel
theorem dX2_nextChange_71 : decode cX2_nextChange 71 = .ok (.iload_n 2, 1) := by decide +kernel
theorem dX2_nextChange_72 : decode cX2_nextChange 72 = .ok (.istore_n 2, 1) := by decide +kernel
theorem dX2_nextChange_73 : decode cX2_nextChange 73 = .ok (.iinc 3 1, 3) := by decide +kernel
theorem dX2_nextChange_76 : decode cX2_nextChange 76 = .ok (.goto (-70), 3) := by decide +kernel
theorem dX2_nextChange_79 : decode cX2_nextChange 79 = .ok (.iload_n 2, 1) := by decide +kernel
theorem dX2_nextChange_80 : decode cX2_nextChange 80 = .ok (.ireturn, 1) := by decide +kernel
theorem dX2_greatestRate_0 : decode cX2_greatestRate 0 = .ok (.iconst 0, 1) := by decide +kernel
theorem dX2_greatestRate_1 : decode cX2_greatestRate 1 = .ok (.istore_n 3, 1) := by decide +kernel
theorem dX2_greatestRate_2 : decode cX2_greatestRate 2 = .ok (.iconst 0, 1) := by decide +kernel
theorem dX2_greatestRate_3 : decode cX2_greatestRate 3 = .ok (.istore 4, 2) := by decide +kernel
theorem dX2_greatestRate_5 : decode cX2_greatestRate 5 = .ok (.iload 4, 2) := by decide +kernel
theorem dX2_greatestRate_7 : decode cX2_greatestRate 7 = .ok (.aload_n 0, 1) := by decide +kernel
theorem dX2_greatestRate_8 : decode cX2_greatestRate 8 = .ok (.getfield 14, 3) := by decide +kernel
theorem dX2_greatestRate_11 : decode cX2_greatestRate 11 = .ok (.invokevirtual 20, 3) := by decide +kernel
theorem dX2_greatestRate_14 : decode cX2_greatestRate 14 = .ok (.if_icmp .ge 81, 3) := by decide +kernel
theorem dX2_greatestRate_17 : decode cX2_greatestRate 17 = .ok (.aload_n 0, 1) := by decide +kernel
theorem dX2_greatestRate_18 : decode cX2_greatestRate 18 = .ok (.getfield 14, 3) := by decide +kernel
theorem dX2_greatestRate_21 : decode cX2_greatestRate 21 = .ok (.iload 4, 2) := by decide +kernel
theorem dX2_greatestRate_23 : decode cX2_greatestRate 23 = .ok (.iconst 0, 1) := by decide +kernel
theorem dX2_greatestRate_24 : decode cX2_greatestRate 24 = .ok (.invokevirtual 32, 3) := by decide +kernel
theorem dX2_greatestRate_27 : decode cX2_greatestRate 27 = .ok (.iload_n 1, 1) := by decide +kernel
theorem dX2_greatestRate_28 : decode cX2_greatestRate 28 = .ok (.ishr, 1) := by decide +kernel
theorem dX2_greatestRate_29 : decode cX2_greatestRate 29 = .ok (.iconst 1, 1) := by decide +kernel
theorem dX2_greatestRate_30 : decode cX2_greatestRate 30 = .ok (.iand, 1) := by decide +kernel
theorem dX2_greatestRate_31 : decode cX2_greatestRate 31 = .ok (.iconst 1, 1) := by decide +kernel
theorem dX2_greatestRate_32 : decode cX2_greatestRate 32 = .ok (.if_icmp .ne 7, 3) := by decide +kernel
theorem dX2_greatestRate_35 : decode cX2_greatestRate 35 = .ok (.iconst 1, 1) := by decide +kernel
theorem dX2_greatestRate_36 : decode cX2_greatestRate 36 = .ok (.goto 4, 3) := by decide +kernel
theorem dX2_greatestRate_39 : decode cX2_greatestRate 39 = .ok (.iconst 0, 1) := by decide +kernel
theorem dX2_greatestRate_40 : decode cX2_greatestRate 40 = .ok (.istore 5, 2) := by decide +kernel
theorem dX2_greatestRate_42 : decode cX2_greatestRate 42 = .ok (.iload 5, 2) := by decide +kernel
theorem dX2_greatestRate_44 : decode cX2_greatestRate 44 = .ok (.ifCond .eq 45, 3) := by decide +kernel
theorem dX2_greatestRate_47 : decode cX2_greatestRate 47 = .ok (.iload_n 2, 1) := by decide +kernel
theorem dX2_greatestRate_48 : decode cX2_greatestRate 48 = .ok (.aload_n 0, 1) := by decide +kernel
theorem dX2_greatestRate_49 : decode cX2_greatestRate 49 = .ok (.getfield 14, 3) := by decide +kernel
theorem dX2_greatestRate_52 : decode cX2_greatestRate 52 = .ok (.iload 4, 2) := by decide +kernel
theorem dX2_greatestRate_54 : decode cX2_greatestRate 54 = .ok (.iconst 1, 1) := by decide +kernel
theorem dX2_greatestRate_55 : decode cX2_greatestRate 55 = .ok (.invokevirtual 32, 3) := by decide +kernel
theorem dX2_greatestRate_58 : decode cX2_greatestRate 58 = .ok (.aload_n 0, 1) := by decide +kernel
theorem dX2_greatestRate_59 : decode cX2_greatestRate 59 = .ok (.getfield 14, 3) := by decide +kernel
theorem dX2_greatestRate_62 : decode cX2_greatestRate 62 = .ok (.iload 4, 2) := by decide +kernel
theorem dX2_greatestRate_64 : decode cX2_greatestRate 64 = .ok (.iconst 2, 1) := by decide +kernel
theorem dX2_greatestRate_65 : decode cX2_greatestRate 65 = .ok (.invokevirtual 32, 3) := by decide +kernel
theorem dX2_greatestRate_68 : decode cX2_greatestRate 68 = .ok (.invokestatic 51, 3) := by decide +kernel
theorem dX2_greatestRate_71 : decode cX2_greatestRate 71 = .ok (.ifCond .eq 18, 3) := by decide +kernel
theorem dX2_greatestRate_74 : decode cX2_greatestRate 74 = .ok (.iload_n 3, 1) := by decide +kernel
theorem dX2_greatestRate_75 : decode cX2_greatestRate 75 = .ok (.aload_n 0, 1) := by decide +kernel
theorem dX2_greatestRate_76 : decode cX2_greatestRate 76 = .ok (.getfield 14, 3) := by decide +kernel
theorem dX2_greatestRate_79 : decode cX2_greatestRate 79 = .ok (.iload 4, 2) := by decide +kernel
theorem dX2_greatestRate_81 : decode cX2_greatestRate 81 = .ok (.iconst 3, 1) := by decide +kernel
theorem dX2_greatestRate_82 : decode cX2_greatestRate 82 = .ok (.invokevirtual 32, 3) := by decide +kernel
theorem dX2_greatestRate_85 : decode cX2_greatestRate 85 = .ok (.invokestatic 55, 3) := by decide +kernel
theorem dX2_greatestRate_88 : decode cX2_greatestRate 88 = .ok (.istore_n 3, 1) := by decide +kernel
theorem dX2_greatestRate_89 : decode cX2_greatestRate 89 = .ok (.iinc 4 1, 3) := by decide +kernel
theorem dX2_greatestRate_92 : decode cX2_greatestRate 92 = .ok (.goto (-87), 3) := by decide +kernel
theorem dX2_greatestRate_95 : decode cX2_greatestRate 95 = .ok (.iload_n 3, 1) := by decide +kernel
theorem dX2_greatestRate_96 : decode cX2_greatestRate 96 = .ok (.ireturn, 1) := by decide +kernel
theorem dX2_isBetween_0 : decode cX2_isBetween 0 = .ok (.iload_n 1, 1) := by decide +kernel
theorem dX2_isBetween_1 : decode cX2_isBetween 1 = .ok (.iload_n 2, 1) := by decide +kernel
theorem dX2_isBetween_2 : decode cX2_isBetween 2 = .ok (.if_icmp .ge 19, 3) := by decide +kernel
theorem dX2_isBetween_5 : decode cX2_isBetween 5 = .ok (.iload_n 1, 1) := by decide +kernel
theorem dX2_isBetween_6 : decode cX2_isBetween 6 = .ok (.iload_n 0, 1) := by decide +kernel
theorem dX2_isBetween_7 : decode cX2_isBetween 7 = .ok (.if_icmp .gt 12, 3) := by decide +kernel
theorem dX2_isBetween_10 : decode cX2_isBetween 10 = .ok (.iload_n 0, 1) := by decide +kernel
theorem dX2_isBetween_11 : decode cX2_isBetween 11 = .ok (.iload_n 2, 1) := by decide +kernel
theorem dX2_isBetween_12 : decode cX2_isBetween 12 = .ok (.if_icmp .ge 7, 3) := by decide +kernel
theorem dX2_isBetween_15 : decode cX2_isBetween 15 = .ok (.iconst 1, 1) := by decide +kernel
theorem dX2_isBetween_16 : decode cX2_isBetween 16 = .ok (.goto 4, 3) := by decide +kernel
theorem dX2_isBetween_19 : decode cX2_isBetween 19 = .ok (.iconst 0, 1) := by decide +kernel
theorem dX2_isBetween_20 : decode cX2_isBetween 20 = .ok (.ireturn, 1) := by decide +kernel
theorem dX2_isBetween_21 : decode cX2_isBetween 21 = .ok (.iload_n 1, 1) := by decide +kernel
theorem dX2_isBetween_22 : decode cX2_isBetween 22 = .ok (.iload_n 2, 1) := by decide +kernel
theorem dX2_isBetween_23 : decode cX2_isBetween 23 = .ok (.if_icmp .eq 13, 3) := by decide +kernel
theorem dX2_isBetween_26 : decode cX2_isBetween 26 = .ok (.iload_n 0, 1) := by decide +kernel
theorem dX2_isBetween_27 : decode cX2_isBetween 27 = .ok (.iload_n 1, 1) := by decide +kernel
theorem dX2_isBetween_28 : decode cX2_isBetween 28 = .ok (.if_icmp .ge 8, 3) := by decide +kernel
theorem dX2_isBetween_31 : decode cX2_isBetween 31 = .ok (.iload_n 0, 1) := by decide +kernel
theorem dX2_isBetween_32 : decode cX2_isBetween 32 = .ok (.iload_n 2, 1) := by decide +kernel
theorem dX2_isBetween_33 : decode cX2_isBetween 33 = .ok (.if_icmp .ge 7, 3) := by decide +kernel
theorem dX2_isBetween_36 : decode cX2_isBetween 36 = .ok (.iconst 1, 1) := by decide +kernel
theorem dX2_isBetween_37 : decode cX2_isBetween 37 = .ok (.goto 4, 3) := by decide +kernel
theorem dX2_isBetween_40 : decode cX2_isBetween 40 = .ok (.iconst 0, 1) := by decide +kernel
theorem dX2_isBetween_41 : decode cX2_isBetween 41 = .ok (.ireturn, 1) := by decide +kernel
theorem dX3_init_0 : decode cX3_init 0 = .ok (.aload_n 0, 1) := by decide +kernel
theorem dX3_init_1 : decode cX3_init 1 = .ok (.invokespecial 3, 3) := by decide +kernel
theorem dX3_init_4 : decode cX3_init 4 = .ok (.aload_n 0, 1) := by decide +kernel
theorem dX3_init_5 : decode cX3_init 5 = .ok (.new 9, 3) := by decide +kernel
theorem dX3_init_8 : decode cX3_init 8 = .ok (.dup, 1) := by decide +kernel
theorem dX3_init_9 : decode cX3_init 9 = .ok (.bipush 40, 2) := by decide +kernel
theorem dX3_init_11 : decode cX3_init 11 = .ok (.iconst 2, 1) := by decide +kernel
theorem dX3_init_12 : decode cX3_init 12 = .ok (.invokespecial 11, 3) := by decide +kernel
theorem dX3_init_15 : decode cX3_init 15 = .ok (.putfield 14, 3) := by decide +kernel
theorem dX3_init_18 : decode cX3_init 18 = .ok (.aload_n 0, 1) := by decide +kernel
theorem dX3_init_19 : decode cX3_init 19 = .ok (.iconst 0, 1) := by decide +kernel
theorem dX3_init_20 : decode cX3_init 20 = .ok (.putfield 20, 3) := by decide +kernel
theorem dX3_init_23 : decode cX3_init 23 = .ok (.return_, 1) := by decide +kernel
theorem dX3_read_0 : decode cX3_read 0 = .ok (.aload_n 0, 1) := by decide +kernel
theorem dX3_read_1 : decode cX3_read 1 = .ok (.getfield 14, 3) := by decide +kernel
theorem dX3_read_4 : decode cX3_read 4 = .ok (.invokevirtual 24, 3) := by decide +kernel
theorem dX3_read_7 : decode cX3_read 7 = .ok (.aload_n 0, 1) := by decide +kernel
theorem dX3_read_8 : decode cX3_read 8 = .ok (.iconst 0, 1) := by decide +kernel
theorem dX3_read_9 : decode cX3_read 9 = .ok (.putfield 20, 3) := by decide +kernel
theorem dX3_read_12 : decode cX3_read 12 = .ok (.iconst 0, 1) := by decide +kernel
theorem dX3_read_13 : decode cX3_read 13 = .ok (.istore_n 2, 1) := by decide +kernel
theorem dX3_read_14 : decode cX3_read 14 = .ok (.iload_n 2, 1) := by decide +kernel
theorem dX3_read_15 : decode cX3_read 15 = .ok (.aload_n 1, 1) := by decide +kernel
theorem dX3_read_16 : decode cX3_read 16 = .ok (.invokevirtual 27, 3) := by decide +kernel
theorem dX3_read_19 : decode cX3_read 19 = .ok (.if_icmp .ge 42, 3) := by decide +kernel
theorem dX3_read_22 : decode cX3_read 22 = .ok (.aload_n 1, 1) := by decide +kernel
theorem dX3_read_23 : decode cX3_read 23 = .ok (.iload_n 2, 1) := by decide +kernel
theorem dX3_read_24 : decode cX3_read 24 = .ok (.invokestatic 31, 3) := by decide +kernel
theorem dX3_read_27 : decode cX3_read 27 = .ok (.ifCond .eq 12, 3) := by decide +kernel
theorem dX3_read_30 : decode cX3_read 30 = .ok (.aload_n 0, 1) := by decide +kernel
theorem dX3_read_31 : decode cX3_read 31 = .ok (.aload_n 1, 1) := by decide +kernel
theorem dX3_read_32 : decode cX3_read 32 = .ok (.iload_n 2, 1) := by decide +kernel
theorem dX3_read_33 : decode cX3_read 33 = .ok (.invokevirtual 35, 3) := by decide +kernel
theorem dX3_read_36 : decode cX3_read 36 = .ok (.goto 19, 3) := by decide +kernel
theorem dX3_read_39 : decode cX3_read 39 = .ok (.aload_n 1, 1) := by decide +kernel
theorem dX3_read_40 : decode cX3_read 40 = .ok (.iload_n 2, 1) := by decide +kernel
theorem dX3_read_41 : decode cX3_read 41 = .ok (.iconst 1, 1) := by decide +kernel
theorem dX3_read_42 : decode cX3_read 42 = .ok (.isub, 1) := by decide +kernel
theorem dX3_read_43 : decode cX3_read 43 = .ok (.invokestatic 31, 3) := by decide +kernel
theorem dX3_read_46 : decode cX3_read 46 = .ok (.ifCond .ne 9, 3) := by decide +kernel
theorem dX3_read_49 : decode cX3_read 49 = .ok (.aload_n 0, 1) := by decide +kernel
theorem dX3_read_50 : decode cX3_read 50 = .ok (.aload_n 1, 1) := by decide +kernel
theorem dX3_read_51 : decode cX3_read 51 = .ok (.iload_n 2, 1) := by decide +kernel
theorem dX3_read_52 : decode cX3_read 52 = .ok (.invokevirtual 39, 3) := by decide +kernel
theorem dX3_read_55 : decode cX3_read 55 = .ok (.iinc 2 1, 3) := by decide +kernel
theorem dX3_read_58 : decode cX3_read 58 = .ok (.goto (-44), 3) := by decide +kernel
theorem dX3_read_61 : decode cX3_read 61 = .ok (.return_, 1) := by decide +kernel
theorem dX3_addFromIn_0 : decode cX3_addFromIn 0 = .ok (.aload_n 1, 1) := by decide +kernel
theorem dX3_addFromIn_1 : decode cX3_addFromIn 1 = .ok (.iload_n 2, 1) := by decide +kernel
theorem dX3_addFromIn_2 : decode cX3_addFromIn 2 = .ok (.iconst 0, 1) := by decide +kernel
theorem dX3_addFromIn_3 : decode cX3_addFromIn 3 = .ok (.invokevirtual 42, 3) := by decide +kernel
theorem dX3_addFromIn_6 : decode cX3_addFromIn 6 = .ok (.istore_n 3, 1) := by decide +kernel
theorem dX3_addFromIn_7 : decode cX3_addFromIn 7 = .ok (.iload_n 2, 1) := by decide +kernel
theorem dX3_addFromIn_8 : decode cX3_addFromIn 8 = .ok (.iconst 1, 1) := by decide +kernel
theorem dX3_addFromIn_9 : decode cX3_addFromIn 9 = .ok (.iadd, 1) := by decide +kernel
theorem dX3_addFromIn_10 : decode cX3_addFromIn 10 = .ok (.aload_n 1, 1) := by decide +kernel
theorem dX3_addFromIn_11 : decode cX3_addFromIn 11 = .ok (.invokevirtual 27, 3) := by decide +kernel
theorem dX3_addFromIn_14 : decode cX3_addFromIn 14 = .ok (.if_icmp .lt 7, 3) := by decide +kernel
theorem dX3_addFromIn_17 : decode cX3_addFromIn 17 = .ok (.iconst 1, 1) := by decide +kernel
theorem dX3_addFromIn_18 : decode cX3_addFromIn 18 = .ok (.goto 4, 3) := by decide +kernel
theorem dX3_addFromIn_21 : decode cX3_addFromIn 21 = .ok (.iconst 0, 1) := by decide +kernel
theorem dX3_addFromIn_22 : decode cX3_addFromIn 22 = .ok (.istore 4, 2) := by decide +kernel
theorem dX3_addFromIn_24 : decode cX3_addFromIn 24 = .ok (.iload 4, 2) := by decide +kernel
theorem dX3_addFromIn_26 : decode cX3_addFromIn 26 = .ok (.ifCond .eq 9, 3) := by decide +kernel
theorem dX3_addFromIn_29 : decode cX3_addFromIn 29 = .ok (.sipush 10080, 3) := by decide +kernel
theorem dX3_addFromIn_32 : decode cX3_addFromIn 32 = .ok (.goto 11, 3) := by decide +kernel
theorem dX3_addFromIn_35 : decode cX3_addFromIn 35 = .ok (.aload_n 1, 1) := by decide +kernel
theorem dX3_addFromIn_36 : decode cX3_addFromIn 36 = .ok (.iload_n 2, 1) := by decide +kernel
theorem dX3_addFromIn_37 : decode cX3_addFromIn 37 = .ok (.iconst 1, 1) := by decide +kernel
theorem dX3_addFromIn_38 : decode cX3_addFromIn 38 = .ok (.iadd, 1) := by decide +kernel
theorem dX3_addFromIn_39 : decode cX3_addFromIn 39 = .ok (.iconst 0, 1) := by decide +kernel
theorem dX3_addFromIn_40 : decode cX3_addFromIn 40 = .ok (.invokevirtual 42, 3) := by decide +kernel
theorem dX3_addFromIn_43 : decode cX3_addFromIn 43 = .ok (.istore 5, 2) := by decide +kernel
theorem dX3_addFromIn_45 : decode cX3_addFromIn 45 = .ok (.iload 4, 2) := by decide +kernel
theorem dX3_addFromIn_47 : decode cX3_addFromIn 47 = .ok (.ifCond .ne 13, 3) := by decide +kernel
theorem dX3_addFromIn_50 : decode cX3_addFromIn 50 = .ok (.aload_n 1, 1) := by decide +kernel
theorem dX3_addFromIn_51 : decode cX3_addFromIn 51 = .ok (.iload_n 2, 1) := by decide +kernel
theorem dX3_addFromIn_52 : decode cX3_addFromIn 52 = .ok (.iconst 1, 1) := by decide +kernel
theorem dX3_addFromIn_53 : decode cX3_addFromIn 53 = .ok (.iadd, 1) := by decide +kernel
theorem dX3_addFromIn_54 : decode cX3_addFromIn 54 = .ok (.invokestatic 31, 3) := by decide +kernel
theorem dX3_addFromIn_57 : decode cX3_addFromIn 57 = .ok (.ifCond .eq 34, 3) := by decide +kernel
theorem dX3_addFromIn_60 : decode cX3_addFromIn 60 = .ok (.aload_n 0, 1) := by decide +kernel
theorem dX3_addFromIn_61 : decode cX3_addFromIn 61 = .ok (.dup, 1) := by decide +kernel
theorem dX3_addFromIn_62 : decode cX3_addFromIn 62 = .ok (.getfield 20, 3) := by decide +kernel
theorem dX3_addFromIn_65 : decode cX3_addFromIn 65 = .ok (.iconst 1, 1) := by decide +kernel
theorem dX3_addFromIn_66 : decode cX3_addFromIn 66 = .ok (.iadd, 1) := by decide +kernel
theorem dX3_addFromIn_67 : decode cX3_addFromIn 67 = .ok (.putfield 20, 3) := by decide +kernel
theorem dX3_addFromIn_70 : decode cX3_addFromIn 70 = .ok (.aload_n 0, 1) := by decide +kernel
theorem dX3_addFromIn_71 : decode cX3_addFromIn 71 = .ok (.getfield 14, 3) := by decide +kernel
theorem dX3_addFromIn_74 : decode cX3_addFromIn 74 = .ok (.iload_n 3, 1) := by decide +kernel
theorem dX3_addFromIn_75 : decode cX3_addFromIn 75 = .ok (.iload_n 3, 1) := by decide +kernel
theorem dX3_addFromIn_76 : decode cX3_addFromIn 76 = .ok (.sipush 480, 3) := by decide +kernel
theorem dX3_addFromIn_79 : decode cX3_addFromIn 79 = .ok (.iadd, 1) := by decide +kernel
theorem dX3_addFromIn_80 : decode cX3_addFromIn 80 = .ok (.iload 5, 2) := by decide +kernel
theorem dX3_addFromIn_82 : decode cX3_addFromIn 82 = .ok (.invokestatic 46, 3) := by decide +kernel
theorem dX3_addFromIn_85 : decode cX3_addFromIn 85 = .ok (.invokevirtual 51, 3) := by decide +kernel
theorem dX3_addFromIn_88 : decode cX3_addFromIn 88 = .ok (.goto 13, 3) := by decide +kernel
theorem dX3_addFromIn_91 : decode cX3_addFromIn 91 = .ok (.aload_n 0, 1) := by decide +kernel
theorem dX3_addFromIn_92 : decode cX3_addFromIn 92 = .ok (.getfield 14, 3) := by decide +kernel
theorem dX3_addFromIn_95 : decode cX3_addFromIn 95 = .ok (.iload_n 3, 1) := by decide +kernel
theorem dX3_addFromIn_96 : decode cX3_addFromIn 96 = .ok (.iload 5, 2) := by decide +kernel
theorem dX3_addFromIn_98 : decode cX3_addFromIn 98 = .ok (.invokevirtual 51, 3) := by decide +kernel
theorem dX3_addFromIn_101 : decode cX3_addFromIn 101 = .ok (.return_, 1) := by decide +kernel
theorem dX3_addFromLoneOut_0 : decode cX3_addFromLoneOut 0 = .ok (.aload_n 1, 1) := by decide +kernel
theorem dX3_addFromLoneOut_1 : decode cX3_addFromLoneOut 1 = .ok (.iload_n 2, 1) := by decide +kernel
theorem dX3_addFromLoneOut_2 : decode cX3_addFromLoneOut 2 = .ok (.iconst 0, 1) := by decide +kernel
theorem dX3_addFromLoneOut_3 : decode cX3_addFromLoneOut 3 = .ok (.invokevirtual 42, 3) := by decide +kernel
theorem dX3_addFromLoneOut_6 : decode cX3_addFromLoneOut 6 = .ok (.istore_n 3, 1) := by decide +kernel
theorem dX3_addFromLoneOut_7 : decode cX3_addFromLoneOut 7 = .ok (.iload_n 2, 1) := by decide +kernel
theorem dX3_addFromLoneOut_8 : decode cX3_addFromLoneOut 8 = .ok (.ifCond .ne 7, 3) := by decide +kernel
theorem dX3_addFromLoneOut_11 : decode cX3_addFromLoneOut 11 = .ok (.iconst 0, 1) := by decide +kernel
theorem dX3_addFromLoneOut_12 : decode cX3_addFromLoneOut 12 = .ok (.goto 11, 3) := by decide +kernel
theorem dX3_addFromLoneOut_15 : decode cX3_addFromLoneOut 15 = .ok (.aload_n 1, 1) := by decide +kernel
theorem dX3_addFromLoneOut_16 : decode cX3_addFromLoneOut 16 = .ok (.iload_n 2, 1) := by decide +kernel
theorem dX3_addFromLoneOut_17 : decode cX3_addFromLoneOut 17 = .ok (.iconst 1, 1) := by decide +kernel
theorem dX3_addFromLoneOut_18 : decode cX3_addFromLoneOut 18 = .ok (.isub, 1) := by decide +kernel
theorem dX3_addFromLoneOut_19 : decode cX3_addFromLoneOut 19 = .ok (.iconst 0, 1) := by decide +kernel
theorem dX3_addFromLoneOut_20 : decode cX3_addFromLoneOut 20 = .ok (.invokevirtual 42, 3) := by decide +kernel
theorem dX3_addFromLoneOut_23 : decode cX3_addFromLoneOut 23 = .ok (.istore 4, 2) := by decide +kernel
theorem dX3_addFromLoneOut_25 : decode cX3_addFromLoneOut 25 = .ok (.aload_n 0, 1) := by decide +kernel
theorem dX3_addFromLoneOut_26 : decode cX3_addFromLoneOut 26 = .ok (.dup, 1) := by decide +kernel
theorem dX3_addFromLoneOut_27 : decode cX3_addFromLoneOut 27 = .ok (.getfield 20, 3) := by decide +kernel
theorem dX3_addFromLoneOut_30 : decode cX3_addFromLoneOut 30 = .ok (.iconst 1, 1) := by decide +kernel
theorem dX3_addFromLoneOut_31 : decode cX3_addFromLoneOut 31 = .ok (.iadd, 1) := by decide +kernel
theorem dX3_addFromLoneOut_32 : decode cX3_addFromLoneOut 32 = .ok (.putfield 20, 3) := by decide +kernel
theorem dX3_addFromLoneOut_35 : decode cX3_addFromLoneOut 35 = .ok (.aload_n 0, 1) := by decide +kernel
theorem dX3_addFromLoneOut_36 : decode cX3_addFromLoneOut 36 = .ok (.getfield 14, 3) := by decide +kernel
theorem dX3_addFromLoneOut_39 : decode cX3_addFromLoneOut 39 = .ok (.iload_n 3, 1) := by decide +kernel
theorem dX3_addFromLoneOut_40 : decode cX3_addFromLoneOut 40 = .ok (.sipush 480, 3) := by decide +kernel
theorem dX3_addFromLoneOut_43 : decode cX3_addFromLoneOut 43 = .ok (.isub, 1) := by decide +kernel
theorem dX3_addFromLoneOut_44 : decode cX3_addFromLoneOut 44 = .ok (.iload 4, 2) := by decide +kernel
theorem dX3_addFromLoneOut_46 : decode cX3_addFromLoneOut 46 = .ok (.invokestatic 54, 3) := by decide +kernel
theorem dX3_addFromLoneOut_49 : decode cX3_addFromLoneOut 49 = .ok (.iload_n 3, 1) := by decide +kernel
theorem dX3_addFromLoneOut_50 : decode cX3_addFromLoneOut 50 = .ok (.invokevirtual 51, 3) := by decide +kernel
theorem dX3_addFromLoneOut_53 : decode cX3_addFromLoneOut 53 = .ok (.return_, 1) := by decide +kernel
theorem dX3_isIn_0 : decode cX3_isIn 0 = .ok (.aload_n 0, 1) := by decide +kernel
theorem dX3_isIn_1 : decode cX3_isIn 1 = .ok (.iload_n 1, 1) := by decide +kernel
theorem dX3_isIn_2 : decode cX3_isIn 2 = .ok (.iconst 1, 1) := by decide +kernel
theorem dX3_isIn_3 : decode cX3_isIn 3 = .ok (.invokevirtual 42, 3) := by decide +kernel
theorem dX3_isIn_6 : decode cX3_isIn 6 = .ok (.iconst 1, 1) := by decide +kernel
theorem dX3_isIn_7 : decode cX3_isIn 7 = .ok (.if_icmp .ne 7, 3) := by decide +kernel
theorem dX3_isIn_10 : decode cX3_isIn 10 = .ok (.iconst 1, 1) := by decide +kernel
theorem dX3_isIn_11 : decode cX3_isIn 11 = .ok (.goto 4, 3) := by decide +kernel
theorem dX3_isIn_14 : decode cX3_isIn 14 = .ok (.iconst 0, 1) := by decide +kernel
theorem dX3_isIn_15 : decode cX3_isIn 15 = .ok (.ireturn, 1) := by decide +kernel
theorem dX5_init_0 : decode cX5_init 0 = .ok (.aload_n 0, 1) := by decide +kernel
theorem dX5_init_1 : decode cX5_init 1 = .ok (.invokespecial 3, 3) := by decide +kernel
theorem dX5_init_4 : decode cX5_init 4 = .ok (.aload_n 0, 1) := by decide +kernel
theorem dX5_init_5 : decode cX5_init 5 = .ok (.new 9, 3) := by decide +kernel
theorem dX5_init_8 : decode cX5_init 8 = .ok (.dup, 1) := by decide +kernel
theorem dX5_init_9 : decode cX5_init 9 = .ok (.invokespecial 11, 3) := by decide +kernel
theorem dX5_init_12 : decode cX5_init 12 = .ok (.putfield 12, 3) := by decide +kernel
theorem dX5_init_15 : decode cX5_init 15 = .ok (.aload_n 0, 1) := by decide +kernel
theorem dX5_init_16 : decode cX5_init 16 = .ok (.new 18, 3) := by decide +kernel
theorem dX5_init_19 : decode cX5_init 19 = .ok (.dup, 1) := by decide +kernel
theorem dX5_init_20 : decode cX5_init 20 = .ok (.sipush 160, 3) := by decide +kernel
theorem dX5_init_23 : decode cX5_init 23 = .ok (.iconst 3, 1) := by decide +kernel
theorem dX5_init_24 : decode cX5_init 24 = .ok (.invokespecial 20, 3) := by decide +kernel
theorem dX5_init_27 : decode cX5_init 27 = .ok (.putfield 23, 3) := by decide +kernel
theorem dX5_init_30 : decode cX5_init 30 = .ok (.aload_n 0, 1) := by decide +kernel
theorem dX5_init_31 : decode cX5_init 31 = .ok (.new 18, 3) := by decide +kernel
theorem dX5_init_34 : decode cX5_init 34 = .ok (.dup, 1) := by decide +kernel
theorem dX5_init_35 : decode cX5_init 35 = .ok (.bipush 80, 2) := by decide +kernel
theorem dX5_init_37 : decode cX5_init 37 = .ok (.iconst 2, 1) := by decide +kernel
theorem dX5_init_38 : decode cX5_init 38 = .ok (.invokespecial 20, 3) := by decide +kernel
theorem dX5_init_41 : decode cX5_init 41 = .ok (.putfield 27, 3) := by decide +kernel
theorem dX5_init_44 : decode cX5_init 44 = .ok (.aload_n 0, 1) := by decide +kernel
theorem dX5_init_45 : decode cX5_init 45 = .ok (.iconst 0, 1) := by decide +kernel
theorem dX5_init_46 : decode cX5_init 46 = .ok (.putfield 30, 3) := by decide +kernel
theorem dX5_init_49 : decode cX5_init 49 = .ok (.return_, 1) := by decide +kernel
theorem dX5_read_0 : decode cX5_read 0 = .ok (.aload_n 0, 1) := by decide +kernel
theorem dX5_read_1 : decode cX5_read 1 = .ok (.getfield 12, 3) := by decide +kernel
theorem dX5_read_4 : decode cX5_read 4 = .ok (.aload_n 1, 1) := by decide +kernel
theorem dX5_read_5 : decode cX5_read 5 = .ok (.getfield 34, 3) := by decide +kernel
theorem dX5_read_8 : decode cX5_read 8 = .ok (.invokevirtual 39, 3) := by decide +kernel
theorem dX5_read_11 : decode cX5_read 11 = .ok (.aload_n 0, 1) := by decide +kernel
theorem dX5_read_12 : decode cX5_read 12 = .ok (.getfield 23, 3) := by decide +kernel
theorem dX5_read_15 : decode cX5_read 15 = .ok (.invokevirtual 43, 3) := by decide +kernel
theorem dX5_read_18 : decode cX5_read 18 = .ok (.aload_n 0, 1) := by decide +kernel
theorem dX5_read_19 : decode cX5_read 19 = .ok (.aload_n 0, 1) := by decide +kernel
theorem dX5_read_20 : decode cX5_read 20 = .ok (.getfield 12, 3) := by decide +kernel
theorem dX5_read_23 : decode cX5_read 23 = .ok (.getfield 46, 3) := by decide +kernel
theorem dX5_read_26 : decode cX5_read 26 = .ok (.iconst 1, 1) := by decide +kernel
theorem dX5_read_27 : decode cX5_read 27 = .ok (.iconst 0, 1) := by decide +kernel
theorem dX5_read_28 : decode cX5_read 28 = .ok (.invokevirtual 49, 3) := by decide +kernel
theorem dX5_read_31 : decode cX5_read 31 = .ok (.aload_n 0, 1) := by decide +kernel
theorem dX5_read_32 : decode cX5_read 32 = .ok (.aload_n 1, 1) := by decide +kernel
theorem dX5_read_33 : decode cX5_read 33 = .ok (.getfield 53, 3) := by decide +kernel
theorem dX5_read_36 : decode cX5_read 36 = .ok (.iconst 1, 1) := by decide +kernel
theorem dX5_read_37 : decode cX5_read 37 = .ok (.iconst 0, 1) := by decide +kernel
theorem dX5_read_38 : decode cX5_read 38 = .ok (.invokevirtual 49, 3) := by decide +kernel
theorem dX5_read_41 : decode cX5_read 41 = .ok (.aload_n 0, 1) := by decide +kernel
theorem dX5_read_42 : decode cX5_read 42 = .ok (.aload_n 1, 1) := by decide +kernel
theorem dX5_read_43 : decode cX5_read 43 = .ok (.getfield 56, 3) := by decide +kernel
theorem dX5_read_46 : decode cX5_read 46 = .ok (.iconst 0, 1) := by decide +kernel
theorem dX5_read_47 : decode cX5_read 47 = .ok (.iconst 1, 1) := by decide +kernel
theorem dX5_read_48 : decode cX5_read 48 = .ok (.invokevirtual 49, 3) := by decide +kernel
theorem dX5_read_51 : decode cX5_read 51 = .ok (.aload_n 0, 1) := by decide +kernel
theorem dX5_read_52 : decode cX5_read 52 = .ok (.invokevirtual 59, 3) := by decide +kernel
theorem dX5_read_55 : decode cX5_read 55 = .ok (.return_, 1) := by decide +kernel
theorem dX5_addEvents_0 : decode cX5_addEvents 0 = .ok (.iconst 0, 1) := by decide +kernel
theorem dX5_addEvents_1 : decode cX5_addEvents 1 = .ok (.istore 4, 2) := by decide +kernel
theorem dX5_addEvents_3 : decode cX5_addEvents 3 = .ok (.iload 4, 2) := by decide +kernel
theorem dX5_addEvents_5 : decode cX5_addEvents 5 = .ok (.aload_n 1, 1) := by decide +kernel
theorem dX5_addEvents_6 : decode cX5_addEvents 6 = .ok (.invokevirtual 62, 3) := by decide +kernel
theorem dX5_addEvents_9 : decode cX5_addEvents 9 = .ok (.if_icmp .ge 37, 3) := by decide +kernel
theorem dX5_addEvents_12 : decode cX5_addEvents 12 = .ok (.aload_n 0, 1) := by decide +kernel
theorem dX5_addEvents_13 : decode cX5_addEvents 13 = .ok (.aload_n 1, 1) := by decide +kernel
theorem dX5_addEvents_14 : decode cX5_addEvents 14 = .ok (.iload 4, 2) := by decide +kernel
theorem dX5_addEvents_16 : decode cX5_addEvents 16 = .ok (.iconst 0, 1) := by decide +kernel
theorem dX5_addEvents_17 : decode cX5_addEvents 17 = .ok (.invokevirtual 66, 3) := by decide +kernel
theorem dX5_addEvents_20 : decode cX5_addEvents 20 = .ok (.iload_n 2, 1) := by decide +kernel
theorem dX5_addEvents_21 : decode cX5_addEvents 21 = .ok (.iload_n 3, 1) := by decide +kernel
theorem dX5_addEvents_22 : decode cX5_addEvents 22 = .ok (.invokevirtual 70, 3) := by decide +kernel
theorem dX5_addEvents_25 : decode cX5_addEvents 25 = .ok (.aload_n 0, 1) := by decide +kernel
theorem dX5_addEvents_26 : decode cX5_addEvents 26 = .ok (.aload_n 1, 1) := by decide +kernel
theorem dX5_addEvents_27 : decode cX5_addEvents 27 = .ok (.iload 4, 2) := by decide +kernel
theorem dX5_addEvents_29 : decode cX5_addEvents 29 = .ok (.iconst 1, 1) := by decide +kernel
theorem dX5_addEvents_30 : decode cX5_addEvents 30 = .ok (.invokevirtual 66, 3) := by decide +kernel
theorem dX5_addEvents_33 : decode cX5_addEvents 33 = .ok (.iload_n 2, 1) := by decide +kernel
theorem dX5_addEvents_34 : decode cX5_addEvents 34 = .ok (.ineg, 1) := by decide +kernel
theorem dX5_addEvents_35 : decode cX5_addEvents 35 = .ok (.iload_n 3, 1) := by decide +kernel
theorem dX5_addEvents_36 : decode cX5_addEvents 36 = .ok (.ineg, 1) := by decide +kernel
theorem dX5_addEvents_37 : decode cX5_addEvents 37 = .ok (.invokevirtual 70, 3) := by decide +kernel
theorem dX5_addEvents_40 : decode cX5_addEvents 40 = .ok (.iinc 4 1, 3) := by decide +kernel
theorem dX5_addEvents_43 : decode cX5_addEvents 43 = .ok (.goto (-40), 3) := by decide +kernel
theorem dX5_addEvents_46 : decode cX5_addEvents 46 = .ok (.return_, 1) := by decide +kernel
theorem dX5_addEvent_0 : decode cX5_addEvent 0 = .ok (.aload_n 0, 1) := by decide +kernel
theorem dX5_addEvent_1 : decode cX5_addEvent 1 = .ok (.getfield 23, 3) := by decide +kernel
theorem dX5_addEvent_4 : decode cX5_addEvent 4 = .ok (.invokevirtual 62, 3) := by decide +kernel
theorem dX5_addEvent_7 : decode cX5_addEvent 7 = .ok (.istore 4, 2) := by decide +kernel
theorem dX5_addEvent_9 : decode cX5_addEvent 9 = .ok (.iload 4, 2) := by decide +kernel
theorem dX5_addEvent_11 : decode cX5_addEvent 11 = .ok (.iconst 1, 1) := by decide +kernel
theorem dX5_addEvent_12 : decode cX5_addEvent 12 = .ok (.isub, 1) := by decide +kernel
theorem dX5_addEvent_13 : decode cX5_addEvent 13 = .ok (.istore 5, 2) := by decide +kernel
theorem dX5_addEvent_15 : decode cX5_addEvent 15 = .ok (.iload 5, 2) := by decide +kernel
theorem dX5_addEvent_17 : decode cX5_addEvent 17 = .ok (.ifCond .lt 27, 3) := by decide +kernel
theorem dX5_addEvent_20 : decode cX5_addEvent 20 = .ok (.aload_n 0, 1) := by decide +kernel
theorem dX5_addEvent_21 : decode cX5_addEvent 21 = .ok (.getfield 23, 3) := by decide +kernel
theorem dX5_addEvent_24 : decode cX5_addEvent 24 = .ok (.iload 5, 2) := by decide +kernel
theorem dX5_addEvent_26 : decode cX5_addEvent 26 = .ok (.iconst 0, 1) := by decide +kernel
theorem dX5_addEvent_27 : decode cX5_addEvent 27 = .ok (.invokevirtual 66, 3) := by decide +kernel
theorem dX5_addEvent_30 : decode cX5_addEvent 30 = .ok (.iload_n 1, 1) := by decide +kernel
theorem dX5_addEvent_31 : decode cX5_addEvent 31 = .ok (.if_icmp .le 13, 3) := by decide +kernel
theorem dX5_addEvent_34 : decode cX5_addEvent 34 = .ok (.iload 5, 2) := by decide +kernel
theorem dX5_addEvent_36 : decode cX5_addEvent 36 = .ok (.istore 4, 2) := by decide +kernel
theorem dX5_addEvent_38 : decode cX5_addEvent 38 = .ok (.iinc 5 (-1), 3) := by decide +kernel
theorem dX5_addEvent_41 : decode cX5_addEvent 41 = .ok (.goto (-26), 3) := by decide +kernel
theorem dX5_addEvent_44 : decode cX5_addEvent 44 = .ok (.aload_n 0, 1) := by decide +kernel
theorem dX5_addEvent_45 : decode cX5_addEvent 45 = .ok (.getfield 23, 3) := by decide +kernel
theorem dX5_addEvent_48 : decode cX5_addEvent 48 = .ok (.iload 4, 2) := by decide +kernel
theorem dX5_addEvent_50 : decode cX5_addEvent 50 = .ok (.invokevirtual 74, 3) := by decide +kernel
theorem dX5_addEvent_53 : decode cX5_addEvent 53 = .ok (.aload_n 0, 1) := by decide +kernel
theorem dX5_addEvent_54 : decode cX5_addEvent 54 = .ok (.getfield 23, 3) := by decide +kernel
theorem dX5_addEvent_57 : decode cX5_addEvent 57 = .ok (.iload 4, 2) := by decide +kernel
theorem dX5_addEvent_59 : decode cX5_addEvent 59 = .ok (.iconst 0, 1) := by decide +kernel
theorem dX5_addEvent_60 : decode cX5_addEvent 60 = .ok (.iload_n 1, 1) := by decide +kernel
theorem dX5_addEvent_61 : decode cX5_addEvent 61 = .ok (.invokevirtual 78, 3) := by decide +kernel
theorem dX5_addEvent_64 : decode cX5_addEvent 64 = .ok (.aload_n 0, 1) := by decide +kernel
theorem dX5_addEvent_65 : decode cX5_addEvent 65 = .ok (.getfield 23, 3) := by decide +kernel
theorem dX5_addEvent_68 : decode cX5_addEvent 68 = .ok (.iload 4, 2) := by decide +kernel
theorem dX5_addEvent_70 : decode cX5_addEvent 70 = .ok (.iconst 1, 1) := by decide +kernel
theorem dX5_addEvent_71 : decode cX5_addEvent 71 = .ok (.iload_n 2, 1) := by decide +kernel
theorem dX5_addEvent_72 : decode cX5_addEvent 72 = .ok (.invokevirtual 78, 3) := by decide +kernel
theorem dX5_addEvent_75 : decode cX5_addEvent 75 = .ok (.aload_n 0, 1) := by decide +kernel
theorem dX5_addEvent_76 : decode cX5_addEvent 76 = .ok (.getfield 23, 3) := by decide +kernel
theorem dX5_addEvent_79 : decode cX5_addEvent 79 = .ok (.iload 4, 2) := by decide +kernel
theorem dX5_addEvent_81 : decode cX5_addEvent 81 = .ok (.iconst 2, 1) := by decide +kernel
theorem dX5_addEvent_82 : decode cX5_addEvent 82 = .ok (.iload_n 3, 1) := by decide +kernel
theorem dX5_addEvent_83 : decode cX5_addEvent 83 = .ok (.invokevirtual 78, 3) := by decide +kernel
theorem dX5_addEvent_86 : decode cX5_addEvent 86 = .ok (.return_, 1) := by decide +kernel
theorem dX5_goThroughEvents_0 : decode cX5_goThroughEvents 0 = .ok (.aload_n 0, 1) := by decide +kernel
theorem dX5_goThroughEvents_1 : decode cX5_goThroughEvents 1 = .ok (.getfield 27, 3) := by decide +kernel
theorem dX5_goThroughEvents_4 : decode cX5_goThroughEvents 4 = .ok (.invokevirtual 43, 3) := by decide +kernel
theorem dX5_goThroughEvents_7 : decode cX5_goThroughEvents 7 = .ok (.aload_n 0, 1) := by decide +kernel
theorem dX5_goThroughEvents_8 : decode cX5_goThroughEvents 8 = .ok (.iconst 0, 1) := by decide +kernel
theorem dX5_goThroughEvents_9 : decode cX5_goThroughEvents 9 = .ok (.putfield 30, 3) := by decide +kernel
theorem dX5_goThroughEvents_12 : decode cX5_goThroughEvents 12 = .ok (.iconst 0, 1) := by decide +kernel
theorem dX5_goThroughEvents_13 : decode cX5_goThroughEvents 13 = .ok (.istore_n 1, 1) := by decide +kernel
theorem dX5_goThroughEvents_14 : decode cX5_goThroughEvents 14 = .ok (.iconst 0, 1) := by decide +kernel
theorem dX5_goThroughEvents_15 : decode cX5_goThroughEvents 15 = .ok (.istore_n 2, 1) := by decide +kernel
theorem dX5_goThroughEvents_16 : decode cX5_goThroughEvents 16 = .ok (.iconst 0, 1) := by decide +kernel
theorem dX5_goThroughEvents_17 : decode cX5_goThroughEvents 17 = .ok (.istore_n 3, 1) := by decide +kernel
theorem dX5_goThroughEvents_18 : decode cX5_goThroughEvents 18 = .ok (.iconst 0, 1) := by decide +kernel
theorem dX5_goThroughEvents_19 : decode cX5_goThroughEvents 19 = .ok (.istore 4, 2) := by decide +kernel
theorem dX5_goThroughEvents_21 : decode cX5_goThroughEvents 21 = .ok (.iload 4, 2) := by decide +kernel
theorem dX5_goThroughEvents_23 : decode cX5_goThroughEvents 23 = .ok (.aload_n 0, 1) := by decide +kernel
theorem dX5_goThroughEvents_24 : decode cX5_goThroughEvents 24 = .ok (.getfield 23, 3) := by decide +kernel
theorem dX5_goThroughEvents_27 : decode cX5_goThroughEvents 27 = .ok (.invokevirtual 62, 3) := by decide +kernel
theorem dX5_goThroughEvents_30 : decode cX5_goThroughEvents 30 = .ok (.if_icmp .ge 90, 3) := by decide +kernel
theorem dX5_goThroughEvents_33 : decode cX5_goThroughEvents 33 = .ok (.aload_n 0, 1) := by decide +kernel
theorem dX5_goThroughEvents_34 : decode cX5_goThroughEvents 34 = .ok (.getfield 23, 3) := by decide +kernel
theorem dX5_goThroughEvents_37 : decode cX5_goThroughEvents 37 = .ok (.iload 4, 2) := by decide +kernel
theorem dX5_goThroughEvents_39 : decode cX5_goThroughEvents 39 = .ok (.iconst 0, 1) := by decide +kernel
theorem dX5_goThroughEvents_40 : decode cX5_goThroughEvents 40 = .ok (.invokevirtual 66, 3) := by decide +kernel
theorem dX5_goThroughEvents_43 : decode cX5_goThroughEvents 43 = .ok (.istore 5, 2) := by decide +kernel
theorem dX5_goThroughEvents_45 : decode cX5_goThroughEvents 45 = .ok (.iload_n 1, 1) := by decide +kernel
theorem dX5_goThroughEvents_46 : decode cX5_goThroughEvents 46 = .ok (.iconst 2, 1) := by decide +kernel
theorem dX5_goThroughEvents_47 : decode cX5_goThroughEvents 47 = .ok (.if_icmp .lt 16, 3) := by decide +kernel
theorem dX5_goThroughEvents_50 : decode cX5_goThroughEvents 50 = .ok (.aload_n 0, 1) := by decide +kernel
theorem dX5_goThroughEvents_51 : decode cX5_goThroughEvents 51 = .ok (.dup, 1) := by decide +kernel
theorem dX5_goThroughEvents_52 : decode cX5_goThroughEvents 52 = .ok (.getfield 30, 3) := by decide +kernel
theorem dX5_goThroughEvents_55 : decode cX5_goThroughEvents 55 = .ok (.iload 5, 2) := by decide +kernel
theorem dX5_goThroughEvents_57 : decode cX5_goThroughEvents 57 = .ok (.iload_n 3, 1) := by decide +kernel
theorem dX5_goThroughEvents_58 : decode cX5_goThroughEvents 58 = .ok (.isub, 1) := by decide +kernel
theorem dX5_goThroughEvents_59 : decode cX5_goThroughEvents 59 = .ok (.iadd, 1) := by decide +kernel
theorem dX5_goThroughEvents_60 : decode cX5_goThroughEvents 60 = .ok (.putfield 30, 3) := by decide +kernel
theorem dX5_goThroughEvents_63 : decode cX5_goThroughEvents 63 = .ok (.iload 5, 2) := by decide +kernel
theorem dX5_goThroughEvents_65 : decode cX5_goThroughEvents 65 = .ok (.iload_n 3, 1) := by decide +kernel
theorem dX5_goThroughEvents_66 : decode cX5_goThroughEvents 66 = .ok (.if_icmp .le 19, 3) := by decide +kernel
theorem dX5_goThroughEvents_69 : decode cX5_goThroughEvents 69 = .ok (.iload_n 1, 1) := by decide +kernel
theorem dX5_goThroughEvents_70 : decode cX5_goThroughEvents 70 = .ok (.iconst 1, 1) := by decide +kernel
theorem dX5_goThroughEvents_71 : decode cX5_goThroughEvents 71 = .ok (.if_icmp .lt 14, 3) := by decide +kernel
theorem dX5_goThroughEvents_74 : decode cX5_goThroughEvents 74 = .ok (.iload_n 2, 1) := by decide +kernel
theorem dX5_goThroughEvents_75 : decode cX5_goThroughEvents 75 = .ok (.ifCond .ne 10, 3) := by decide +kernel
theorem dX5_goThroughEvents_78 : decode cX5_goThroughEvents 78 = .ok (.aload_n 0, 1) := by decide +kernel
theorem dX5_goThroughEvents_79 : decode cX5_goThroughEvents 79 = .ok (.iload_n 3, 1) := by decide +kernel
theorem dX5_goThroughEvents_80 : decode cX5_goThroughEvents 80 = .ok (.iload 5, 2) := by decide +kernel
theorem dX5_goThroughEvents_82 : decode cX5_goThroughEvents 82 = .ok (.invokevirtual 81, 3) := by decide +kernel
theorem dX5_goThroughEvents_85 : decode cX5_goThroughEvents 85 = .ok (.iload_n 1, 1) := by decide +kernel
theorem dX5_goThroughEvents_86 : decode cX5_goThroughEvents 86 = .ok (.aload_n 0, 1) := by decide +kernel
theorem dX5_goThroughEvents_87 : decode cX5_goThroughEvents 87 = .ok (.getfield 23, 3) := by decide +kernel
theorem dX5_goThroughEvents_90 : decode cX5_goThroughEvents 90 = .ok (.iload 4, 2) := by decide +kernel
theorem dX5_goThroughEvents_92 : decode cX5_goThroughEvents 92 = .ok (.iconst 1, 1) := by decide +kernel
theorem dX5_goThroughEvents_93 : decode cX5_goThroughEvents 93 = .ok (.invokevirtual 66, 3) := by decide +kernel
theorem dX5_goThroughEvents_96 : decode cX5_goThroughEvents 96 = .ok (.iadd, 1) := by decide +kernel
theorem dX5_goThroughEvents_97 : decode cX5_goThroughEvents 97 = .ok (.istore_n 1, 1) := by decide +kernel
theorem dX5_goThroughEvents_98 : decode cX5_goThroughEvents 98 = .ok (.iload_n 2, 1) := by decide +kernel
theorem dX5_goThroughEvents_99 : decode cX5_goThroughEvents 99 = .ok (.aload_n 0, 1) := by decide +kernel
theorem dX5_goThroughEvents_100 : decode cX5_goThroughEvents 100 = .ok (.getfield 23, 3) := by decide +kernel
theorem dX5_goThroughEvents_103 : decode cX5_goThroughEvents 103 = .ok (.iload 4, 2) := by decide +kernel
theorem dX5_goThroughEvents_105 : decode cX5_goThroughEvents 105 = .ok (.iconst 2, 1) := by decide +kernel
theorem dX5_goThroughEvents_106 : decode cX5_goThroughEvents 106 = .ok (.invokevirtual 66, 3) := by decide +kernel
theorem dX5_goThroughEvents_109 : decode cX5_goThroughEvents 109 = .ok (.iadd, 1) := by decide +kernel
theorem dX5_goThroughEvents_110 : decode cX5_goThroughEvents 110 = .ok (.istore_n 2, 1) := by decide +kernel
theorem dX5_goThroughEvents_111 : decode cX5_goThroughEvents 111 = .ok (.iload 5, 2) := by decide +kernel
theorem dX5_goThroughEvents_113 : decode cX5_goThroughEvents 113 = .ok (.istore_n 3, 1) := by decide +kernel
theorem dX5_goThroughEvents_114 : decode cX5_goThroughEvents 114 = .ok (.iinc 4 1, 3) := by decide +kernel
theorem dX5_goThroughEvents_117 : decode cX5_goThroughEvents 117 = .ok (.goto (-96), 3) := by decide +kernel
theorem dX5_goThroughEvents_120 : decode cX5_goThroughEvents 120 = .ok (.return_, 1) := by decide +kernel
theorem dX5_addWorked_0 : decode cX5_addWorked 0 = .ok (.aload_n 0, 1) := by decide +kernel
theorem dX5_addWorked_1 : decode cX5_addWorked 1 = .ok (.getfield 27, 3) := by decide +kernel
theorem dX5_addWorked_4 : decode cX5_addWorked 4 = .ok (.invokevirtual 62, 3) := by decide +kernel
theorem dX5_addWorked_7 : decode cX5_addWorked 7 = .ok (.iconst 1, 1) := by decide +kernel
theorem dX5_addWorked_8 : decode cX5_addWorked 8 = .ok (.isub, 1) := by decide +kernel
theorem dX5_addWorked_9 : decode cX5_addWorked 9 = .ok (.istore_n 3, 1) := by decide +kernel
theorem dX5_addWorked_10 : decode cX5_addWorked 10 = .ok (.iload_n 3, 1) := by decide +kernel
theorem dX5_addWorked_11 : decode cX5_addWorked 11 = .ok (.ifCond .lt 29, 3) := by decide +kernel
theorem dX5_addWorked_14 : decode cX5_addWorked 14 = .ok (.aload_n 0, 1) := by decide +kernel
theorem dX5_addWorked_15 : decode cX5_addWorked 15 = .ok (.getfield 27, 3) := by decide +kernel
theorem dX5_addWorked_18 : decode cX5_addWorked 18 = .ok (.iload_n 3, 1) := by decide +kernel
theorem dX5_addWorked_19 : decode cX5_addWorked 19 = .ok (.iconst 1, 1) := by decide +kernel
theorem dX5_addWorked_20 : decode cX5_addWorked 20 = .ok (.invokevirtual 66, 3) := by decide +kernel
theorem dX5_addWorked_23 : decode cX5_addWorked 23 = .ok (.iload_n 1, 1) := by decide +kernel
theorem dX5_addWorked_24 : decode cX5_addWorked 24 = .ok (.if_icmp .ne 16, 3) := by decide +kernel
theorem dX5_addWorked_27 : decode cX5_addWorked 27 = .ok (.aload_n 0, 1) := by decide +kernel
theorem dX5_addWorked_28 : decode cX5_addWorked 28 = .ok (.getfield 27, 3) := by decide +kernel
theorem dX5_addWorked_31 : decode cX5_addWorked 31 = .ok (.iload_n 3, 1) := by decide +kernel
theorem dX5_addWorked_32 : decode cX5_addWorked 32 = .ok (.iconst 1, 1) := by decide +kernel
theorem dX5_addWorked_33 : decode cX5_addWorked 33 = .ok (.iload_n 2, 1) := by decide +kernel
theorem dX5_addWorked_34 : decode cX5_addWorked 34 = .ok (.invokevirtual 78, 3) := by decide +kernel
theorem dX5_addWorked_37 : decode cX5_addWorked 37 = .ok (.goto 12, 3) := by decide +kernel
theorem dX5_addWorked_40 : decode cX5_addWorked 40 = .ok (.aload_n 0, 1) := by decide +kernel
theorem dX5_addWorked_41 : decode cX5_addWorked 41 = .ok (.getfield 27, 3) := by decide +kernel
theorem dX5_addWorked_44 : decode cX5_addWorked 44 = .ok (.iload_n 1, 1) := by decide +kernel
theorem dX5_addWorked_45 : decode cX5_addWorked 45 = .ok (.iload_n 2, 1) := by decide +kernel
theorem dX5_addWorked_46 : decode cX5_addWorked 46 = .ok (.invokevirtual 84, 3) := by decide +kernel
theorem dX5_addWorked_49 : decode cX5_addWorked 49 = .ok (.return_, 1) := by decide +kernel
theorem dX1_init_0 : decode cX1_init 0 = .ok (.aload_n 0, 1) := by decide +kernel
theorem dX1_init_1 : decode cX1_init 1 = .ok (.invokespecial 3, 3) := by decide +kernel
theorem dX1_init_4 : decode cX1_init 4 = .ok (.aload_n 0, 1) := by decide +kernel
theorem dX1_init_5 : decode cX1_init 5 = .ok (.new 9, 3) := by decide +kernel
theorem dX1_init_8 : decode cX1_init 8 = .ok (.dup, 1) := by decide +kernel
theorem dX1_init_9 : decode cX1_init 9 = .ok (.invokespecial 11, 3) := by decide +kernel
theorem dX1_init_12 : decode cX1_init 12 = .ok (.putfield 12, 3) := by decide +kernel
theorem dX1_init_15 : decode cX1_init 15 = .ok (.aload_n 0, 1) := by decide +kernel
theorem dX1_init_16 : decode cX1_init 16 = .ok (.new 18, 3) := by decide +kernel
theorem dX1_init_19 : decode cX1_init 19 = .ok (.dup, 1) := by decide +kernel
theorem dX1_init_20 : decode cX1_init 20 = .ok (.sipush 160, 3) := by decide +kernel
theorem dX1_init_23 : decode cX1_init 23 = .ok (.iconst 2, 1) := by decide +kernel
theorem dX1_init_24 : decode cX1_init 24 = .ok (.invokespecial 20, 3) := by decide +kernel
theorem dX1_init_27 : decode cX1_init 27 = .ok (.putfield 23, 3) := by decide +kernel
theorem dX1_init_30 : decode cX1_init 30 = .ok (.aload_n 0, 1) := by decide +kernel
theorem dX1_init_31 : decode cX1_init 31 = .ok (.new 18, 3) := by decide +kernel
theorem dX1_init_34 : decode cX1_init 34 = .ok (.dup, 1) := by decide +kernel
theorem dX1_init_35 : decode cX1_init 35 = .ok (.sipush 188, 3) := by decide +kernel
theorem dX1_init_38 : decode cX1_init 38 = .ok (.iconst 3, 1) := by decide +kernel
theorem dX1_init_39 : decode cX1_init 39 = .ok (.invokespecial 20, 3) := by decide +kernel
theorem dX1_init_42 : decode cX1_init 42 = .ok (.putfield 27, 3) := by decide +kernel
theorem dX1_init_45 : decode cX1_init 45 = .ok (.return_, 1) := by decide +kernel
theorem dX1_read_0 : decode cX1_read 0 = .ok (.aload_n 0, 1) := by decide +kernel
theorem dX1_read_1 : decode cX1_read 1 = .ok (.getfield 12, 3) := by decide +kernel
theorem dX1_read_4 : decode cX1_read 4 = .ok (.aload_n 1, 1) := by decide +kernel
theorem dX1_read_5 : decode cX1_read 5 = .ok (.invokevirtual 30, 3) := by decide +kernel
theorem dX1_read_8 : decode cX1_read 8 = .ok (.aload_n 0, 1) := by decide +kernel
theorem dX1_read_9 : decode cX1_read 9 = .ok (.aload_n 0, 1) := by decide +kernel
theorem dX1_read_10 : decode cX1_read 10 = .ok (.getfield 12, 3) := by decide +kernel
theorem dX1_read_13 : decode cX1_read 13 = .ok (.getfield 34, 3) := by decide +kernel
theorem dX1_read_16 : decode cX1_read 16 = .ok (.invokevirtual 37, 3) := by decide +kernel
theorem dX1_read_19 : decode cX1_read 19 = .ok (.aload_n 0, 1) := by decide +kernel
theorem dX1_read_20 : decode cX1_read 20 = .ok (.getfield 27, 3) := by decide +kernel
theorem dX1_read_23 : decode cX1_read 23 = .ok (.invokevirtual 41, 3) := by decide +kernel
theorem dX1_read_26 : decode cX1_read 26 = .ok (.aload_n 0, 1) := by decide +kernel
theorem dX1_read_27 : decode cX1_read 27 = .ok (.invokevirtual 44, 3) := by decide +kernel
theorem dX1_read_30 : decode cX1_read 30 = .ok (.istore_n 2, 1) := by decide +kernel
theorem dX1_read_31 : decode cX1_read 31 = .ok (.iconst 0, 1) := by decide +kernel
theorem dX1_read_32 : decode cX1_read 32 = .ok (.istore_n 3, 1) := by decide +kernel
theorem dX1_read_33 : decode cX1_read 33 = .ok (.iconst 0, 1) := by decide +kernel
theorem dX1_read_34 : decode cX1_read 34 = .ok (.istore 4, 2) := by decide +kernel
theorem dX1_read_36 : decode cX1_read 36 = .ok (.iload 4, 2) := by decide +kernel
theorem dX1_read_38 : decode cX1_read 38 = .ok (.bipush 7, 2) := by decide +kernel
theorem dX1_read_40 : decode cX1_read 40 = .ok (.if_icmp .ge 44, 3) := by decide +kernel
theorem dX1_read_43 : decode cX1_read 43 = .ok (.aload_n 0, 1) := by decide +kernel
theorem dX1_read_44 : decode cX1_read 44 = .ok (.iload 4, 2) := by decide +kernel
theorem dX1_read_46 : decode cX1_read 46 = .ok (.iload_n 3, 1) := by decide +kernel
theorem dX1_read_47 : decode cX1_read 47 = .ok (.iload_n 2, 1) := by decide +kernel
theorem dX1_read_48 : decode cX1_read 48 = .ok (.ifCond .eq 14, 3) := by decide +kernel
theorem dX1_read_51 : decode cX1_read 51 = .ok (.iload 4, 2) := by decide +kernel
theorem dX1_read_53 : decode cX1_read 53 = .ok (.bipush 6, 2) := by decide +kernel
theorem dX1_read_55 : decode cX1_read 55 = .ok (.if_icmp .ne 7, 3) := by decide +kernel
theorem dX1_read_58 : decode cX1_read 58 = .ok (.iconst 1, 1) := by decide +kernel
theorem dX1_read_59 : decode cX1_read 59 = .ok (.goto 4, 3) := by decide +kernel
theorem dX1_read_62 : decode cX1_read 62 = .ok (.iconst 0, 1) := by decide +kernel
theorem dX1_read_63 : decode cX1_read 63 = .ok (.invokevirtual 48, 3) := by decide +kernel
theorem dX1_read_66 : decode cX1_read 66 = .ok (.iload_n 3, 1) := by decide +kernel
theorem dX1_read_67 : decode cX1_read 67 = .ok (.aload_n 0, 1) := by decide +kernel
theorem dX1_read_68 : decode cX1_read 68 = .ok (.getfield 23, 3) := by decide +kernel
theorem dX1_read_71 : decode cX1_read 71 = .ok (.iload 4, 2) := by decide +kernel
theorem dX1_read_73 : decode cX1_read 73 = .ok (.invokestatic 52, 3) := by decide +kernel
theorem dX1_read_76 : decode cX1_read 76 = .ok (.iadd, 1) := by decide +kernel
theorem dX1_read_77 : decode cX1_read 77 = .ok (.istore_n 3, 1) := by decide +kernel
theorem dX1_read_78 : decode cX1_read 78 = .ok (.iinc 4 1, 3) := by decide +kernel
theorem dX1_read_81 : decode cX1_read 81 = .ok (.goto (-45), 3) := by decide +kernel
theorem dX1_read_84 : decode cX1_read 84 = .ok (.return_, 1) := by decide +kernel
theorem dX1_takeOffAutomaticBreaks_0 : decode cX1_takeOffAutomaticBreaks 0 = .ok (.aload_n 0, 1) := by decide +kernel
theorem dX1_takeOffAutomaticBreaks_1 : decode cX1_takeOffAutomaticBreaks 1 = .ok (.getfield 23, 3) := by decide +kernel
theorem dX1_takeOffAutomaticBreaks_4 : decode cX1_takeOffAutomaticBreaks 4 = .ok (.invokevirtual 41, 3) := by decide +kernel
theorem dX1_takeOffAutomaticBreaks_7 : decode cX1_takeOffAutomaticBreaks 7 = .ok (.iconst 0, 1) := by decide +kernel
theorem dX1_takeOffAutomaticBreaks_8 : decode cX1_takeOffAutomaticBreaks 8 = .ok (.istore_n 2, 1) := by decide +kernel
theorem dX1_takeOffAutomaticBreaks_9 : decode cX1_takeOffAutomaticBreaks 9 = .ok (.iload_n 2, 1) := by decide +kernel
theorem dX1_takeOffAutomaticBreaks_10 : decode cX1_takeOffAutomaticBreaks 10 = .ok (.aload_n 1, 1) := by decide +kernel
theorem dX1_takeOffAutomaticBreaks_11 : decode cX1_takeOffAutomaticBreaks 11 = .ok (.invokevirtual 56, 3) := by decide +kernel
theorem dX1_takeOffAutomaticBreaks_14 : decode cX1_takeOffAutomaticBreaks 14 = .ok (.if_icmp .ge 66, 3) := by decide +kernel
theorem dX1_takeOffAutomaticBreaks_17 : decode cX1_takeOffAutomaticBreaks 17 = .ok (.aload_n 1, 1) := by decide +kernel
theorem dX1_takeOffAutomaticBreaks_18 : decode cX1_takeOffAutomaticBreaks 18 = .ok (.iload_n 2, 1) := by decide +kernel
theorem dX1_takeOffAutomaticBreaks_19 : decode cX1_takeOffAutomaticBreaks 19 = .ok (.iconst 0, 1) := by decide +kernel
theorem dX1_takeOffAutomaticBreaks_20 : decode cX1_takeOffAutomaticBreaks 20 = .ok (.invokevirtual 60, 3) := by decide +kernel
theorem dX1_takeOffAutomaticBreaks_23 : decode cX1_takeOffAutomaticBreaks 23 = .ok (.istore_n 3, 1) := by decide +kernel
theorem dX1_takeOffAutomaticBreaks_24 : decode cX1_takeOffAutomaticBreaks 24 = .ok (.aload_n 1, 1) := by decide +kernel
theorem dX1_takeOffAutomaticBreaks_25 : decode cX1_takeOffAutomaticBreaks 25 = .ok (.iload_n 2, 1) := by decide +kernel
theorem dX1_takeOffAutomaticBreaks_26 : decode cX1_takeOffAutomaticBreaks 26 = .ok (.iconst 1, 1) := by decide +kernel
theorem dX1_takeOffAutomaticBreaks_27 : decode cX1_takeOffAutomaticBreaks 27 = .ok (.invokevirtual 60, 3) := by decide +kernel
theorem dX1_takeOffAutomaticBreaks_30 : decode cX1_takeOffAutomaticBreaks 30 = .ok (.istore 4, 2) := by decide +kernel
theorem dX1_takeOffAutomaticBreaks_32 : decode cX1_takeOffAutomaticBreaks 32 = .ok (.aload_n 0, 1) := by decide +kernel
theorem dX1_takeOffAutomaticBreaks_33 : decode cX1_takeOffAutomaticBreaks 33 = .ok (.getfield 23, 3) := by decide +kernel
theorem dX1_takeOffAutomaticBreaks_36 : decode cX1_takeOffAutomaticBreaks 36 = .ok (.iload_n 3, 1) := by decide +kernel
theorem dX1_takeOffAutomaticBreaks_37 : decode cX1_takeOffAutomaticBreaks 37 = .ok (.iload 4, 2) := by decide +kernel
theorem dX1_takeOffAutomaticBreaks_39 : decode cX1_takeOffAutomaticBreaks 39 = .ok (.iload_n 3, 1) := by decide +kernel
theorem dX1_takeOffAutomaticBreaks_40 : decode cX1_takeOffAutomaticBreaks 40 = .ok (.sipush 360, 3) := by decide +kernel
theorem dX1_takeOffAutomaticBreaks_43 : decode cX1_takeOffAutomaticBreaks 43 = .ok (.iadd, 1) := by decide +kernel
theorem dX1_takeOffAutomaticBreaks_44 : decode cX1_takeOffAutomaticBreaks 44 = .ok (.invokestatic 64, 3) := by decide +kernel
theorem dX1_takeOffAutomaticBreaks_47 : decode cX1_takeOffAutomaticBreaks 47 = .ok (.invokevirtual 69, 3) := by decide +kernel
theorem dX1_takeOffAutomaticBreaks_50 : decode cX1_takeOffAutomaticBreaks 50 = .ok (.iload 4, 2) := by decide +kernel
theorem dX1_takeOffAutomaticBreaks_52 : decode cX1_takeOffAutomaticBreaks 52 = .ok (.iload_n 3, 1) := by decide +kernel
theorem dX1_takeOffAutomaticBreaks_53 : decode cX1_takeOffAutomaticBreaks 53 = .ok (.sipush 390, 3) := by decide +kernel
theorem dX1_takeOffAutomaticBreaks_56 : decode cX1_takeOffAutomaticBreaks 56 = .ok (.iadd, 1) := by decide +kernel
theorem dX1_takeOffAutomaticBreaks_57 : decode cX1_takeOffAutomaticBreaks 57 = .ok (.if_icmp .le 17, 3) := by decide +kernel
theorem dX1_takeOffAutomaticBreaks_60 : decode cX1_takeOffAutomaticBreaks 60 = .ok (.aload_n 0, 1) := by decide +kernel
theorem dX1_takeOffAutomaticBreaks_61 : decode cX1_takeOffAutomaticBreaks 61 = .ok (.getfield 23, 3) := by decide +kernel
theorem dX1_takeOffAutomaticBreaks_64 : decode cX1_takeOffAutomaticBreaks 64 = .ok (.iload_n 3, 1) := by decide +kernel
theorem dX1_takeOffAutomaticBreaks_65 : decode cX1_takeOffAutomaticBreaks 65 = .ok (.sipush 390, 3) := by decide +kernel
theorem dX1_takeOffAutomaticBreaks_68 : decode cX1_takeOffAutomaticBreaks 68 = .ok (.iadd, 1) := by decide +kernel
theorem dX1_takeOffAutomaticBreaks_69 : decode cX1_takeOffAutomaticBreaks 69 = .ok (.iload 4, 2) := by decide +kernel
theorem dX1_takeOffAutomaticBreaks_71 : decode cX1_takeOffAutomaticBreaks 71 = .ok (.invokevirtual 69, 3) := by decide +kernel
theorem dX1_takeOffAutomaticBreaks_74 : decode cX1_takeOffAutomaticBreaks 74 = .ok (.iinc 2 1, 3) := by decide +kernel
theorem dX1_takeOffAutomaticBreaks_77 : decode cX1_takeOffAutomaticBreaks 77 = .ok (.goto (-68), 3) := by decide +kernel
theorem dX1_takeOffAutomaticBreaks_80 : decode cX1_takeOffAutomaticBreaks 80 = .ok (.return_, 1) := by decide +kernel
theorem dX1_isFull_0 : decode cX1_isFull 0 = .ok (.iconst 1, 1) := by decide +kernel
theorem dX1_isFull_1 : decode cX1_isFull 1 = .ok (.istore_n 1, 1) := by decide +kernel
theorem dX1_isFull_2 : decode cX1_isFull 2 = .ok (.iconst 0, 1) := by decide +kernel
theorem dX1_isFull_3 : decode cX1_isFull 3 = .ok (.istore_n 2, 1) := by decide +kernel
theorem dX1_isFull_4 : decode cX1_isFull 4 = .ok (.iload_n 2, 1) := by decide +kernel
theorem dX1_isFull_5 : decode cX1_isFull 5 = .ok (.bipush 6, 2) := by decide +kernel
theorem dX1_isFull_7 : decode cX1_isFull 7 = .ok (.if_icmp .ge 30, 3) := by decide +kernel
theorem dX1_isFull_10 : decode cX1_isFull 10 = .ok (.iload_n 1, 1) := by decide +kernel
theorem dX1_isFull_11 : decode cX1_isFull 11 = .ok (.ifCond .eq 18, 3) := by decide +kernel
theorem dX1_isFull_14 : decode cX1_isFull 14 = .ok (.aload_n 0, 1) := by decide +kernel
theorem dX1_isFull_15 : decode cX1_isFull 15 = .ok (.getfield 23, 3) := by decide +kernel
theorem dX1_isFull_18 : decode cX1_isFull 18 = .ok (.iload_n 2, 1) := by decide +kernel
theorem dX1_isFull_19 : decode cX1_isFull 19 = .ok (.invokestatic 52, 3) := by decide +kernel
theorem dX1_isFull_22 : decode cX1_isFull 22 = .ok (.ifCond .le 7, 3) := by decide +kernel
theorem dX1_isFull_25 : decode cX1_isFull 25 = .ok (.iconst 1, 1) := by decide +kernel
theorem dX1_isFull_26 : decode cX1_isFull 26 = .ok (.goto 4, 3) := by decide +kernel
theorem dX1_isFull_29 : decode cX1_isFull 29 = .ok (.iconst 0, 1) := by decide +kernel
theorem dX1_isFull_30 : decode cX1_isFull 30 = .ok (.istore_n 1, 1) := by decide +kernel
theorem dX1_isFull_31 : decode cX1_isFull 31 = .ok (.iinc 2 1, 3) := by decide +kernel
theorem dX1_isFull_34 : decode cX1_isFull 34 = .ok (.goto (-30), 3) := by decide +kernel
theorem dX1_isFull_37 : decode cX1_isFull 37 = .ok (.iload_n 1, 1) := by decide +kernel
theorem dX1_isFull_38 : decode cX1_isFull 38 = .ok (.ireturn, 1) := by decide +kernel
theorem dX1_addPartsOfDay_0 : decode cX1_addPartsOfDay 0 = .ok (.iconst 0, 1) := by decide +kernel
theorem dX1_addPartsOfDay_1 : decode cX1_addPartsOfDay 1 = .ok (.istore 4, 2) := by decide +kernel
theorem dX1_addPartsOfDay_3 : decode cX1_addPartsOfDay 3 = .ok (.iconst 0, 1) := by decide +kernel
theorem dX1_addPartsOfDay_4 : decode cX1_addPartsOfDay 4 = .ok (.istore 5, 2) := by decide +kernel
theorem dX1_addPartsOfDay_6 : decode cX1_addPartsOfDay 6 = .ok (.iload 5, 2) := by decide +kernel
theorem dX1_addPartsOfDay_8 : decode cX1_addPartsOfDay 8 = .ok (.aload_n 0, 1) := by decide +kernel
theorem dX1_addPartsOfDay_9 : decode cX1_addPartsOfDay 9 = .ok (.getfield 23, 3) := by decide +kernel
theorem dX1_addPartsOfDay_12 : decode cX1_addPartsOfDay 12 = .ok (.invokevirtual 56, 3) := by decide +kernel
theorem dX1_addPartsOfDay_15 : decode cX1_addPartsOfDay 15 = .ok (.if_icmp .ge 83, 3) := by decide +kernel
theorem dX1_addPartsOfDay_18 : decode cX1_addPartsOfDay 18 = .ok (.aload_n 0, 1) := by decide +kernel
theorem dX1_addPartsOfDay_19 : decode cX1_addPartsOfDay 19 = .ok (.getfield 23, 3) := by decide +kernel
theorem dX1_addPartsOfDay_22 : decode cX1_addPartsOfDay 22 = .ok (.iload 5, 2) := by decide +kernel
theorem dX1_addPartsOfDay_24 : decode cX1_addPartsOfDay 24 = .ok (.iconst 0, 1) := by decide +kernel
theorem dX1_addPartsOfDay_25 : decode cX1_addPartsOfDay 25 = .ok (.invokevirtual 60, 3) := by decide +kernel
theorem dX1_addPartsOfDay_28 : decode cX1_addPartsOfDay 28 = .ok (.iload_n 1, 1) := by decide +kernel
theorem dX1_addPartsOfDay_29 : decode cX1_addPartsOfDay 29 = .ok (.sipush 1440, 3) := by decide +kernel
theorem dX1_addPartsOfDay_32 : decode cX1_addPartsOfDay 32 = .ok (.imul, 1) := by decide +kernel
theorem dX1_addPartsOfDay_33 : decode cX1_addPartsOfDay 33 = .ok (.invokestatic 72, 3) := by decide +kernel
theorem dX1_addPartsOfDay_36 : decode cX1_addPartsOfDay 36 = .ok (.istore 6, 2) := by decide +kernel
theorem dX1_addPartsOfDay_38 : decode cX1_addPartsOfDay 38 = .ok (.aload_n 0, 1) := by decide +kernel
theorem dX1_addPartsOfDay_39 : decode cX1_addPartsOfDay 39 = .ok (.getfield 23, 3) := by decide +kernel
theorem dX1_addPartsOfDay_42 : decode cX1_addPartsOfDay 42 = .ok (.iload 5, 2) := by decide +kernel
theorem dX1_addPartsOfDay_44 : decode cX1_addPartsOfDay 44 = .ok (.iconst 1, 1) := by decide +kernel
theorem dX1_addPartsOfDay_45 : decode cX1_addPartsOfDay 45 = .ok (.invokevirtual 60, 3) := by decide +kernel
theorem dX1_addPartsOfDay_48 : decode cX1_addPartsOfDay 48 = .ok (.iload_n 1, 1) := by decide +kernel
theorem dX1_addPartsOfDay_49 : decode cX1_addPartsOfDay 49 = .ok (.iconst 1, 1) := by decide +kernel
theorem dX1_addPartsOfDay_50 : decode cX1_addPartsOfDay 50 = .ok (.iadd, 1) := by decide +kernel
theorem dX1_addPartsOfDay_51 : decode cX1_addPartsOfDay 51 = .ok (.sipush 1440, 3) := by decide +kernel
theorem dX1_addPartsOfDay_54 : decode cX1_addPartsOfDay 54 = .ok (.imul, 1) := by decide +kernel
theorem dX1_addPartsOfDay_55 : decode cX1_addPartsOfDay 55 = .ok (.invokestatic 64, 3) := by decide +kernel
theorem dX1_addPartsOfDay_58 : decode cX1_addPartsOfDay 58 = .ok (.istore 7, 2) := by decide +kernel
theorem dX1_addPartsOfDay_60 : decode cX1_addPartsOfDay 60 = .ok (.iload 6, 2) := by decide +kernel
theorem dX1_addPartsOfDay_62 : decode cX1_addPartsOfDay 62 = .ok (.iload 7, 2) := by decide +kernel
theorem dX1_addPartsOfDay_64 : decode cX1_addPartsOfDay 64 = .ok (.if_icmp .ge 28, 3) := by decide +kernel
theorem dX1_addPartsOfDay_67 : decode cX1_addPartsOfDay 67 = .ok (.aload_n 0, 1) := by decide +kernel
theorem dX1_addPartsOfDay_68 : decode cX1_addPartsOfDay 68 = .ok (.iload 6, 2) := by decide +kernel
theorem dX1_addPartsOfDay_70 : decode cX1_addPartsOfDay 70 = .ok (.iload 7, 2) := by decide +kernel
theorem dX1_addPartsOfDay_72 : decode cX1_addPartsOfDay 72 = .ok (.iload 4, 2) := by decide +kernel
theorem dX1_addPartsOfDay_74 : decode cX1_addPartsOfDay 74 = .ok (.iload_n 2, 1) := by decide +kernel
theorem dX1_addPartsOfDay_75 : decode cX1_addPartsOfDay 75 = .ok (.iload 4, 2) := by decide +kernel
theorem dX1_addPartsOfDay_77 : decode cX1_addPartsOfDay 77 = .ok (.iadd, 1) := by decide +kernel
theorem dX1_addPartsOfDay_78 : decode cX1_addPartsOfDay 78 = .ok (.iload_n 3, 1) := by decide +kernel
theorem dX1_addPartsOfDay_79 : decode cX1_addPartsOfDay 79 = .ok (.invokevirtual 75, 3) := by decide +kernel
theorem dX1_addPartsOfDay_82 : decode cX1_addPartsOfDay 82 = .ok (.iload 4, 2) := by decide +kernel
theorem dX1_addPartsOfDay_84 : decode cX1_addPartsOfDay 84 = .ok (.iload 7, 2) := by decide +kernel
theorem dX1_addPartsOfDay_86 : decode cX1_addPartsOfDay 86 = .ok (.iload 6, 2) := by decide +kernel
theorem dX1_addPartsOfDay_88 : decode cX1_addPartsOfDay 88 = .ok (.isub, 1) := by decide +kernel
theorem dX1_addPartsOfDay_89 : decode cX1_addPartsOfDay 89 = .ok (.iadd, 1) := by decide +kernel
theorem dX1_addPartsOfDay_90 : decode cX1_addPartsOfDay 90 = .ok (.istore 4, 2) := by decide +kernel
theorem dX1_addPartsOfDay_92 : decode cX1_addPartsOfDay 92 = .ok (.iinc 5 1, 3) := by decide +kernel
theorem dX1_addPartsOfDay_95 : decode cX1_addPartsOfDay 95 = .ok (.goto (-89), 3) := by decide +kernel
theorem dX1_addPartsOfDay_98 : decode cX1_addPartsOfDay 98 = .ok (.return_, 1) := by decide +kernel
theorem dX1_addParts_0 : decode cX1_addParts 0 = .ok (.iload_n 1, 1) := by decide +kernel
theorem dX1_addParts_1 : decode cX1_addParts 1 = .ok (.istore 6, 2) := by decide +kernel
theorem dX1_addParts_3 : decode cX1_addParts 3 = .ok (.iconst 0, 1) := by decide +kernel
theorem dX1_addParts_4 : decode cX1_addParts 4 = .ok (.istore 7, 2) := by decide +kernel
theorem dX1_addParts_6 : decode cX1_addParts 6 = .ok (.iload 7, 2) := by decide +kernel
theorem dX1_addParts_8 : decode cX1_addParts 8 = .ok (.sipush 1440, 3) := by decide +kernel
theorem dX1_addParts_11 : decode cX1_addParts 11 = .ok (.if_icmp .ge 97, 3) := by decide +kernel
theorem dX1_addParts_14 : decode cX1_addParts 14 = .ok (.iload 6, 2) := by decide +kernel
theorem dX1_addParts_16 : decode cX1_addParts 16 = .ok (.iload_n 2, 1) := by decide +kernel
theorem dX1_addParts_17 : decode cX1_addParts 17 = .ok (.if_icmp .ge 91, 3) := by decide +kernel
theorem dX1_addParts_20 : decode cX1_addParts 20 = .ok (.iload_n 3, 1) := by decide +kernel
theorem dX1_addParts_21 : decode cX1_addParts 21 = .ok (.iload 6, 2) := by decide +kernel
theorem dX1_addParts_23 : decode cX1_addParts 23 = .ok (.iadd, 1) := by decide +kernel
theorem dX1_addParts_24 : decode cX1_addParts 24 = .ok (.iload_n 1, 1) := by decide +kernel
theorem dX1_addParts_25 : decode cX1_addParts 25 = .ok (.isub, 1) := by decide +kernel
theorem dX1_addParts_26 : decode cX1_addParts 26 = .ok (.istore 8, 2) := by decide +kernel
theorem dX1_addParts_28 : decode cX1_addParts 28 = .ok (.iload 4, 2) := by decide +kernel
theorem dX1_addParts_30 : decode cX1_addParts 30 = .ok (.iload 6, 2) := by decide +kernel
theorem dX1_addParts_32 : decode cX1_addParts 32 = .ok (.iadd, 1) := by decide +kernel
theorem dX1_addParts_33 : decode cX1_addParts 33 = .ok (.iload_n 1, 1) := by decide +kernel
theorem dX1_addParts_34 : decode cX1_addParts 34 = .ok (.isub, 1) := by decide +kernel
theorem dX1_addParts_35 : decode cX1_addParts 35 = .ok (.istore 9, 2) := by decide +kernel
theorem dX1_addParts_37 : decode cX1_addParts 37 = .ok (.iload_n 2, 1) := by decide +kernel
theorem dX1_addParts_38 : decode cX1_addParts 38 = .ok (.iload 6, 2) := by decide +kernel
theorem dX1_addParts_40 : decode cX1_addParts 40 = .ok (.isub, 1) := by decide +kernel
theorem dX1_addParts_41 : decode cX1_addParts 41 = .ok (.iload 8, 2) := by decide +kernel
theorem dX1_addParts_43 : decode cX1_addParts 43 = .ok (.iload 9, 2) := by decide +kernel
theorem dX1_addParts_45 : decode cX1_addParts 45 = .ok (.invokestatic 79, 3) := by decide +kernel
theorem dX1_addParts_48 : decode cX1_addParts 48 = .ok (.invokestatic 64, 3) := by decide +kernel
theorem dX1_addParts_51 : decode cX1_addParts 51 = .ok (.istore 10, 2) := by decide +kernel
theorem dX1_addParts_53 : decode cX1_addParts 53 = .ok (.aload_n 0, 1) := by decide +kernel
theorem dX1_addParts_54 : decode cX1_addParts 54 = .ok (.getfield 27, 3) := by decide +kernel
theorem dX1_addParts_57 : decode cX1_addParts 57 = .ok (.invokevirtual 56, 3) := by decide +kernel
theorem dX1_addParts_60 : decode cX1_addParts 60 = .ok (.istore 11, 2) := by decide +kernel
theorem dX1_addParts_62 : decode cX1_addParts 62 = .ok (.aload_n 0, 1) := by decide +kernel
theorem dX1_addParts_63 : decode cX1_addParts 63 = .ok (.getfield 27, 3) := by decide +kernel
theorem dX1_addParts_66 : decode cX1_addParts 66 = .ok (.iload 6, 2) := by decide +kernel
theorem dX1_addParts_68 : decode cX1_addParts 68 = .ok (.iload 6, 2) := by decide +kernel
theorem dX1_addParts_70 : decode cX1_addParts 70 = .ok (.iload 10, 2) := by decide +kernel
theorem dX1_addParts_72 : decode cX1_addParts 72 = .ok (.iadd, 1) := by decide +kernel
theorem dX1_addParts_73 : decode cX1_addParts 73 = .ok (.invokevirtual 69, 3) := by decide +kernel
theorem dX1_addParts_76 : decode cX1_addParts 76 = .ok (.aload_n 0, 1) := by decide +kernel
theorem dX1_addParts_77 : decode cX1_addParts 77 = .ok (.getfield 27, 3) := by decide +kernel
theorem dX1_addParts_80 : decode cX1_addParts 80 = .ok (.iload 11, 2) := by decide +kernel
theorem dX1_addParts_82 : decode cX1_addParts 82 = .ok (.iconst 2, 1) := by decide +kernel
theorem dX1_addParts_83 : decode cX1_addParts 83 = .ok (.iload 8, 2) := by decide +kernel
theorem dX1_addParts_85 : decode cX1_addParts 85 = .ok (.iload 9, 2) := by decide +kernel
theorem dX1_addParts_87 : decode cX1_addParts 87 = .ok (.iload 5, 2) := by decide +kernel
theorem dX1_addParts_89 : decode cX1_addParts 89 = .ok (.invokestatic 82, 3) := by decide +kernel
theorem dX1_addParts_92 : decode cX1_addParts 92 = .ok (.invokevirtual 86, 3) := by decide +kernel
theorem dX1_addParts_95 : decode cX1_addParts 95 = .ok (.iload 6, 2) := by decide +kernel
theorem dX1_addParts_97 : decode cX1_addParts 97 = .ok (.iload 10, 2) := by decide +kernel
theorem dX1_addParts_99 : decode cX1_addParts 99 = .ok (.iadd, 1) := by decide +kernel
theorem dX1_addParts_100 : decode cX1_addParts 100 = .ok (.istore 6, 2) := by decide +kernel
theorem dX1_addParts_102 : decode cX1_addParts 102 = .ok (.iinc 7 1, 3) := by decide +kernel
theorem dX1_addParts_105 : decode cX1_addParts 105 = .ok (.goto (-99), 3) := by decide +kernel
theorem dX1_addParts_108 : decode cX1_addParts 108 = .ok (.return_, 1) := by decide +kernel
theorem dX1_untilLimit_0 : decode cX1_untilLimit 0 = .ok (.sipush 10080, 3) := by decide +kernel
theorem dX1_untilLimit_3 : decode cX1_untilLimit 3 = .ok (.istore_n 2, 1) := by decide +kernel
theorem dX1_untilLimit_4 : decode cX1_untilLimit 4 = .ok (.iload_n 0, 1) := by decide +kernel
theorem dX1_untilLimit_5 : decode cX1_untilLimit 5 = .ok (.sipush 480, 3) := by decide +kernel
theorem dX1_untilLimit_8 : decode cX1_untilLimit 8 = .ok (.if_icmp .ge 12, 3) := by decide +kernel
theorem dX1_untilLimit_11 : decode cX1_untilLimit 11 = .ok (.sipush 480, 3) := by decide +kernel
theorem dX1_untilLimit_14 : decode cX1_untilLimit 14 = .ok (.iload_n 0, 1) := by decide +kernel
theorem dX1_untilLimit_15 : decode cX1_untilLimit 15 = .ok (.isub, 1) := by decide +kernel
theorem dX1_untilLimit_16 : decode cX1_untilLimit 16 = .ok (.istore_n 2, 1) := by decide +kernel
theorem dX1_untilLimit_17 : decode cX1_untilLimit 17 = .ok (.goto 16, 3) := by decide +kernel
theorem dX1_untilLimit_20 : decode cX1_untilLimit 20 = .ok (.iload_n 0, 1) := by decide +kernel
theorem dX1_untilLimit_21 : decode cX1_untilLimit 21 = .ok (.sipush 720, 3) := by decide +kernel
theorem dX1_untilLimit_24 : decode cX1_untilLimit 24 = .ok (.if_icmp .ge 9, 3) := by decide +kernel
theorem dX1_untilLimit_27 : decode cX1_untilLimit 27 = .ok (.sipush 720, 3) := by decide +kernel
theorem dX1_untilLimit_30 : decode cX1_untilLimit 30 = .ok (.iload_n 0, 1) := by decide +kernel
theorem dX1_untilLimit_31 : decode cX1_untilLimit 31 = .ok (.isub, 1) := by decide +kernel
theorem dX1_untilLimit_32 : decode cX1_untilLimit 32 = .ok (.istore_n 2, 1) := by decide +kernel
theorem dX1_untilLimit_33 : decode cX1_untilLimit 33 = .ok (.iload_n 1, 1) := by decide +kernel
theorem dX1_untilLimit_34 : decode cX1_untilLimit 34 = .ok (.sipush 2400, 3) := by decide +kernel
theorem dX1_untilLimit_37 : decode cX1_untilLimit 37 = .ok (.if_icmp .ge 15, 3) := by decide +kernel
theorem dX1_untilLimit_40 : decode cX1_untilLimit 40 = .ok (.iload_n 2, 1) := by decide +kernel
theorem dX1_untilLimit_41 : decode cX1_untilLimit 41 = .ok (.sipush 2400, 3) := by decide +kernel
theorem dX1_untilLimit_44 : decode cX1_untilLimit 44 = .ok (.iload_n 1, 1) := by decide +kernel
theorem dX1_untilLimit_45 : decode cX1_untilLimit 45 = .ok (.isub, 1) := by decide +kernel
theorem dX1_untilLimit_46 : decode cX1_untilLimit 46 = .ok (.invokestatic 64, 3) := by decide +kernel
theorem dX1_untilLimit_49 : decode cX1_untilLimit 49 = .ok (.goto 4, 3) := by decide +kernel
theorem dX1_untilLimit_52 : decode cX1_untilLimit 52 = .ok (.iload_n 2, 1) := by decide +kernel
theorem dX1_untilLimit_53 : decode cX1_untilLimit 53 = .ok (.ireturn, 1) := by decide +kernel
theorem dX1_categoryFor_0 : decode cX1_categoryFor 0 = .ok (.iload_n 0, 1) := by decide +kernel
theorem dX1_categoryFor_1 : decode cX1_categoryFor 1 = .ok (.sipush 720, 3) := by decide +kernel
theorem dX1_categoryFor_4 : decode cX1_categoryFor 4 = .ok (.if_icmp .ge 14, 3) := by decide +kernel
theorem dX1_categoryFor_7 : decode cX1_categoryFor 7 = .ok (.iload_n 2, 1) := by decide +kernel
theorem dX1_categoryFor_8 : decode cX1_categoryFor 8 = .ok (.ifCond .eq 12, 3) := by decide +kernel
theorem dX1_categoryFor_11 : decode cX1_categoryFor 11 = .ok (.iload_n 0, 1) := by decide +kernel
theorem dX1_categoryFor_12 : decode cX1_categoryFor 12 = .ok (.sipush 480, 3) := by decide +kernel
theorem dX1_categoryFor_15 : decode cX1_categoryFor 15 = .ok (.if_icmp .lt 5, 3) := by decide +kernel
theorem dX1_categoryFor_18 : decode cX1_categoryFor 18 = .ok (.iconst 2, 1) := by decide +kernel
theorem dX1_categoryFor_19 : decode cX1_categoryFor 19 = .ok (.ireturn, 1) := by decide +kernel
theorem dX1_categoryFor_20 : decode cX1_categoryFor 20 = .ok (.iload_n 0, 1) := by decide +kernel
theorem dX1_categoryFor_21 : decode cX1_categoryFor 21 = .ok (.sipush 480, 3) := by decide +kernel
theorem dX1_categoryFor_24 : decode cX1_categoryFor 24 = .ok (.if_icmp .ge 14, 3) := by decide +kernel
theorem dX1_categoryFor_27 : decode cX1_categoryFor 27 = .ok (.iload_n 1, 1) := by decide +kernel
theorem dX1_categoryFor_28 : decode cX1_categoryFor 28 = .ok (.sipush 2400, 3) := by decide +kernel
theorem dX1_categoryFor_31 : decode cX1_categoryFor 31 = .ok (.if_icmp .ge 7, 3) := by decide +kernel
theorem dX1_categoryFor_34 : decode cX1_categoryFor 34 = .ok (.iload_n 2, 1) := by decide +kernel
theorem dX1_categoryFor_35 : decode cX1_categoryFor 35 = .ok (.ifCond .eq 7, 3) := by decide +kernel
theorem dX1_categoryFor_38 : decode cX1_categoryFor 38 = .ok (.iconst 1, 1) := by decide +kernel
theorem dX1_categoryFor_39 : decode cX1_categoryFor 39 = .ok (.goto 4, 3) := by decide +kernel
theorem dX1_categoryFor_42 : decode cX1_categoryFor 42 = .ok (.iconst 0, 1) := by decide +kernel
theorem dX1_categoryFor_43 : decode cX1_categoryFor 43 = .ok (.ireturn, 1) := by decide +kernel
theorem dX1_minutesOf_0 : decode cX1_minutesOf 0 = .ok (.iconst 0, 1) := by decide +kernel
theorem dX1_minutesOf_1 : decode cX1_minutesOf 1 = .ok (.istore_n 3, 1) := by decide +kernel
theorem dX1_minutesOf_2 : decode cX1_minutesOf 2 = .ok (.iconst 0, 1) := by decide +kernel
theorem dX1_minutesOf_3 : decode cX1_minutesOf 3 = .ok (.istore 4, 2) := by decide +kernel
theorem dX1_minutesOf_5 : decode cX1_minutesOf 5 = .ok (.iload 4, 2) := by decide +kernel
theorem dX1_minutesOf_7 : decode cX1_minutesOf 7 = .ok (.aload_n 0, 1) := by decide +kernel
theorem dX1_minutesOf_8 : decode cX1_minutesOf 8 = .ok (.getfield 27, 3) := by decide +kernel
theorem dX1_minutesOf_11 : decode cX1_minutesOf 11 = .ok (.invokevirtual 56, 3) := by decide +kernel
theorem dX1_minutesOf_14 : decode cX1_minutesOf 14 = .ok (.if_icmp .ge 65, 3) := by decide +kernel
theorem dX1_minutesOf_17 : decode cX1_minutesOf 17 = .ok (.aload_n 0, 1) := by decide +kernel
theorem dX1_minutesOf_18 : decode cX1_minutesOf 18 = .ok (.getfield 27, 3) := by decide +kernel
theorem dX1_minutesOf_21 : decode cX1_minutesOf 21 = .ok (.iload 4, 2) := by decide +kernel
theorem dX1_minutesOf_23 : decode cX1_minutesOf 23 = .ok (.iconst 2, 1) := by decide +kernel
theorem dX1_minutesOf_24 : decode cX1_minutesOf 24 = .ok (.invokevirtual 60, 3) := by decide +kernel
theorem dX1_minutesOf_27 : decode cX1_minutesOf 27 = .ok (.iload_n 2, 1) := by decide +kernel
theorem dX1_minutesOf_28 : decode cX1_minutesOf 28 = .ok (.if_icmp .ne 45, 3) := by decide +kernel
theorem dX1_minutesOf_31 : decode cX1_minutesOf 31 = .ok (.aload_n 0, 1) := by decide +kernel
theorem dX1_minutesOf_32 : decode cX1_minutesOf 32 = .ok (.getfield 27, 3) := by decide +kernel
theorem dX1_minutesOf_35 : decode cX1_minutesOf 35 = .ok (.iload 4, 2) := by decide +kernel
theorem dX1_minutesOf_37 : decode cX1_minutesOf 37 = .ok (.iconst 0, 1) := by decide +kernel
theorem dX1_minutesOf_38 : decode cX1_minutesOf 38 = .ok (.invokevirtual 60, 3) := by decide +kernel
theorem dX1_minutesOf_41 : decode cX1_minutesOf 41 = .ok (.sipush 1440, 3) := by decide +kernel
theorem dX1_minutesOf_44 : decode cX1_minutesOf 44 = .ok (.idiv, 1) := by decide +kernel
theorem dX1_minutesOf_45 : decode cX1_minutesOf 45 = .ok (.iload_n 1, 1) := by decide +kernel
theorem dX1_minutesOf_46 : decode cX1_minutesOf 46 = .ok (.if_icmp .ne 27, 3) := by decide +kernel
theorem dX1_minutesOf_49 : decode cX1_minutesOf 49 = .ok (.iload_n 3, 1) := by decide +kernel
theorem dX1_minutesOf_50 : decode cX1_minutesOf 50 = .ok (.aload_n 0, 1) := by decide +kernel
theorem dX1_minutesOf_51 : decode cX1_minutesOf 51 = .ok (.getfield 27, 3) := by decide +kernel
theorem dX1_minutesOf_54 : decode cX1_minutesOf 54 = .ok (.iload 4, 2) := by decide +kernel
theorem dX1_minutesOf_56 : decode cX1_minutesOf 56 = .ok (.iconst 1, 1) := by decide +kernel
theorem dX1_minutesOf_57 : decode cX1_minutesOf 57 = .ok (.invokevirtual 60, 3) := by decide +kernel
theorem dX1_minutesOf_60 : decode cX1_minutesOf 60 = .ok (.aload_n 0, 1) := by decide +kernel
theorem dX1_minutesOf_61 : decode cX1_minutesOf 61 = .ok (.getfield 27, 3) := by decide +kernel
theorem dX1_minutesOf_64 : decode cX1_minutesOf 64 = .ok (.iload 4, 2) := by decide +kernel
theorem dX1_minutesOf_66 : decode cX1_minutesOf 66 = .ok (.iconst 0, 1) := by decide +kernel
theorem dX1_minutesOf_67 : decode cX1_minutesOf 67 = .ok (.invokevirtual 60, 3) := by decide +kernel
theorem dX1_minutesOf_70 : decode cX1_minutesOf 70 = .ok (.isub, 1) := by decide +kernel
theorem dX1_minutesOf_71 : decode cX1_minutesOf 71 = .ok (.iadd, 1) := by decide +kernel
theorem dX1_minutesOf_72 : decode cX1_minutesOf 72 = .ok (.istore_n 3, 1) := by decide +kernel
theorem dX1_minutesOf_73 : decode cX1_minutesOf 73 = .ok (.iinc 4 1, 3) := by decide +kernel
theorem dX1_minutesOf_76 : decode cX1_minutesOf 76 = .ok (.goto (-71), 3) := by decide +kernel
theorem dX1_minutesOf_79 : decode cX1_minutesOf 79 = .ok (.iload_n 3, 1) := by decide +kernel
theorem dX1_minutesOf_80 : decode cX1_minutesOf 80 = .ok (.ireturn, 1) := by decide +kernel
theorem dX1_quartersOf_0 : decode cX1_quartersOf 0 = .ok (.aload_n 0, 1) := by decide +kernel
theorem dX1_quartersOf_1 : decode cX1_quartersOf 1 = .ok (.iload_n 1, 1) := by decide +kernel
theorem dX1_quartersOf_2 : decode cX1_quartersOf 2 = .ok (.iload_n 2, 1) := by decide +kernel
theorem dX1_quartersOf_3 : decode cX1_quartersOf 3 = .ok (.invokevirtual 90, 3) := by decide +kernel
theorem dX1_quartersOf_6 : decode cX1_quartersOf 6 = .ok (.istore_n 3, 1) := by decide +kernel
theorem dX1_quartersOf_7 : decode cX1_quartersOf 7 = .ok (.aload_n 0, 1) := by decide +kernel
theorem dX1_quartersOf_8 : decode cX1_quartersOf 8 = .ok (.iload_n 2, 1) := by decide +kernel
theorem dX1_quartersOf_9 : decode cX1_quartersOf 9 = .ok (.invokevirtual 93, 3) := by decide +kernel
theorem dX1_quartersOf_12 : decode cX1_quartersOf 12 = .ok (.istore 4, 2) := by decide +kernel
theorem dX1_quartersOf_14 : decode cX1_quartersOf 14 = .ok (.iconst 0, 1) := by decide +kernel
theorem dX1_quartersOf_15 : decode cX1_quartersOf 15 = .ok (.istore 5, 2) := by decide +kernel
theorem dX1_quartersOf_17 : decode cX1_quartersOf 17 = .ok (.iconst 0, 1) := by decide +kernel
theorem dX1_quartersOf_18 : decode cX1_quartersOf 18 = .ok (.istore 6, 2) := by decide +kernel
theorem dX1_quartersOf_20 : decode cX1_quartersOf 20 = .ok (.iload 6, 2) := by decide +kernel
theorem dX1_quartersOf_22 : decode cX1_quartersOf 22 = .ok (.bipush 7, 2) := by decide +kernel
theorem dX1_quartersOf_24 : decode cX1_quartersOf 24 = .ok (.if_icmp .ge 59, 3) := by decide +kernel
theorem dX1_quartersOf_27 : decode cX1_quartersOf 27 = .ok (.aload_n 0, 1) := by decide +kernel
theorem dX1_quartersOf_28 : decode cX1_quartersOf 28 = .ok (.iload 6, 2) := by decide +kernel
theorem dX1_quartersOf_30 : decode cX1_quartersOf 30 = .ok (.iload_n 2, 1) := by decide +kernel
theorem dX1_quartersOf_31 : decode cX1_quartersOf 31 = .ok (.invokevirtual 90, 3) := by decide +kernel
theorem dX1_quartersOf_34 : decode cX1_quartersOf 34 = .ok (.istore 7, 2) := by decide +kernel
theorem dX1_quartersOf_36 : decode cX1_quartersOf 36 = .ok (.iload 7, 2) := by decide +kernel
theorem dX1_quartersOf_38 : decode cX1_quartersOf 38 = .ok (.bipush 15, 2) := by decide +kernel
theorem dX1_quartersOf_40 : decode cX1_quartersOf 40 = .ok (.irem, 1) := by decide +kernel
theorem dX1_quartersOf_41 : decode cX1_quartersOf 41 = .ok (.iload_n 3, 1) := by decide +kernel
theorem dX1_quartersOf_42 : decode cX1_quartersOf 42 = .ok (.bipush 15, 2) := by decide +kernel
theorem dX1_quartersOf_44 : decode cX1_quartersOf 44 = .ok (.irem, 1) := by decide +kernel
theorem dX1_quartersOf_45 : decode cX1_quartersOf 45 = .ok (.isub, 1) := by decide +kernel
theorem dX1_quartersOf_46 : decode cX1_quartersOf 46 = .ok (.istore 8, 2) := by decide +kernel
theorem dX1_quartersOf_48 : decode cX1_quartersOf 48 = .ok (.iload 4, 2) := by decide +kernel
theorem dX1_quartersOf_50 : decode cX1_quartersOf 50 = .ok (.iload 7, 2) := by decide +kernel
theorem dX1_quartersOf_52 : decode cX1_quartersOf 52 = .ok (.bipush 15, 2) := by decide +kernel
theorem dX1_quartersOf_54 : decode cX1_quartersOf 54 = .ok (.idiv, 1) := by decide +kernel
theorem dX1_quartersOf_55 : decode cX1_quartersOf 55 = .ok (.isub, 1) := by decide +kernel
theorem dX1_quartersOf_56 : decode cX1_quartersOf 56 = .ok (.istore 4, 2) := by decide +kernel
theorem dX1_quartersOf_58 : decode cX1_quartersOf 58 = .ok (.iload 8, 2) := by decide +kernel
theorem dX1_quartersOf_60 : decode cX1_quartersOf 60 = .ok (.ifCond .gt 14, 3) := by decide +kernel
theorem dX1_quartersOf_63 : decode cX1_quartersOf 63 = .ok (.iload 8, 2) := by decide +kernel
theorem dX1_quartersOf_65 : decode cX1_quartersOf 65 = .ok (.ifCond .ne 12, 3) := by decide +kernel
theorem dX1_quartersOf_68 : decode cX1_quartersOf 68 = .ok (.iload 6, 2) := by decide +kernel
theorem dX1_quartersOf_70 : decode cX1_quartersOf 70 = .ok (.iload_n 1, 1) := by decide +kernel
theorem dX1_quartersOf_71 : decode cX1_quartersOf 71 = .ok (.if_icmp .ge 6, 3) := by decide +kernel
theorem dX1_quartersOf_74 : decode cX1_quartersOf 74 = .ok (.iinc 5 1, 3) := by decide +kernel
theorem dX1_quartersOf_77 : decode cX1_quartersOf 77 = .ok (.iinc 6 1, 3) := by decide +kernel
theorem dX1_quartersOf_80 : decode cX1_quartersOf 80 = .ok (.goto (-60), 3) := by decide +kernel
theorem dX1_quartersOf_83 : decode cX1_quartersOf 83 = .ok (.iload_n 3, 1) := by decide +kernel
theorem dX1_quartersOf_84 : decode cX1_quartersOf 84 = .ok (.bipush 15, 2) := by decide +kernel
theorem dX1_quartersOf_86 : decode cX1_quartersOf 86 = .ok (.idiv, 1) := by decide +kernel
theorem dX1_quartersOf_87 : decode cX1_quartersOf 87 = .ok (.iload 5, 2) := by decide +kernel
theorem dX1_quartersOf_89 : decode cX1_quartersOf 89 = .ok (.iload 4, 2) := by decide +kernel
theorem dX1_quartersOf_91 : decode cX1_quartersOf 91 = .ok (.if_icmp .ge 7, 3) := by decide +kernel
theorem dX1_quartersOf_94 : decode cX1_quartersOf 94 = .ok (.iconst 1, 1) := by decide +kernel
theorem dX1_quartersOf_95 : decode cX1_quartersOf 95 = .ok (.goto 4, 3) := by decide +kernel
theorem dX1_quartersOf_98 : decode cX1_quartersOf 98 = .ok (.iconst 0, 1) := by decide +kernel
theorem dX1_quartersOf_99 : decode cX1_quartersOf 99 = .ok (.iadd, 1) := by decide +kernel
theorem dX1_quartersOf_100 : decode cX1_quartersOf 100 = .ok (.ireturn, 1) := by decide +kernel
theorem dX1_quartersOfWeek_0 : decode cX1_quartersOfWeek 0 = .ok (.iconst 0, 1) := by decide +kernel
theorem dX1_quartersOfWeek_1 : decode cX1_quartersOfWeek 1 = .ok (.istore_n 2, 1) := by decide +kernel
theorem dX1_quartersOfWeek_2 : decode cX1_quartersOfWeek 2 = .ok (.iconst 0, 1) := by decide +kernel
theorem dX1_quartersOfWeek_3 : decode cX1_quartersOfWeek 3 = .ok (.istore_n 3, 1) := by decide +kernel
theorem dX1_quartersOfWeek_4 : decode cX1_quartersOfWeek 4 = .ok (.iload_n 3, 1) := by decide +kernel
theorem dX1_quartersOfWeek_5 : decode cX1_quartersOfWeek 5 = .ok (.bipush 7, 2) := by decide +kernel
theorem dX1_quartersOfWeek_7 : decode cX1_quartersOfWeek 7 = .ok (.if_icmp .ge 18, 3) := by decide +kernel
theorem dX1_quartersOfWeek_10 : decode cX1_quartersOfWeek 10 = .ok (.iload_n 2, 1) := by decide +kernel
theorem dX1_quartersOfWeek_11 : decode cX1_quartersOfWeek 11 = .ok (.aload_n 0, 1) := by decide +kernel
theorem dX1_quartersOfWeek_12 : decode cX1_quartersOfWeek 12 = .ok (.iload_n 3, 1) := by decide +kernel
theorem dX1_quartersOfWeek_13 : decode cX1_quartersOfWeek 13 = .ok (.iload_n 1, 1) := by decide +kernel
theorem dX1_quartersOfWeek_14 : decode cX1_quartersOfWeek 14 = .ok (.invokevirtual 90, 3) := by decide +kernel
theorem dX1_quartersOfWeek_17 : decode cX1_quartersOfWeek 17 = .ok (.iadd, 1) := by decide +kernel
theorem dX1_quartersOfWeek_18 : decode cX1_quartersOfWeek 18 = .ok (.istore_n 2, 1) := by decide +kernel
theorem dX1_quartersOfWeek_19 : decode cX1_quartersOfWeek 19 = .ok (.iinc 3 1, 3) := by decide +kernel
theorem dX1_quartersOfWeek_22 : decode cX1_quartersOfWeek 22 = .ok (.goto (-18), 3) := by decide +kernel
theorem dX1_quartersOfWeek_25 : decode cX1_quartersOfWeek 25 = .ok (.iload_n 2, 1) := by decide +kernel
theorem dX1_quartersOfWeek_26 : decode cX1_quartersOfWeek 26 = .ok (.bipush 7, 2) := by decide +kernel
theorem dX1_quartersOfWeek_28 : decode cX1_quartersOfWeek 28 = .ok (.iadd, 1) := by decide +kernel
theorem dX1_quartersOfWeek_29 : decode cX1_quartersOfWeek 29 = .ok (.bipush 15, 2) := by decide +kernel
theorem dX1_quartersOfWeek_31 : decode cX1_quartersOfWeek 31 = .ok (.idiv, 1) := by decide +kernel
theorem dX1_quartersOfWeek_32 : decode cX1_quartersOfWeek 32 = .ok (.ireturn, 1) := by decide +kernel
theorem dX1_basicPay_0 : decode cX1_basicPay 0 = .ok (.iconst 2, 1) := by decide +kernel
theorem dX1_basicPay_1 : decode cX1_basicPay 1 = .ok (.aload_n 0, 1) := by decide +kernel
theorem dX1_basicPay_2 : decode cX1_basicPay 2 = .ok (.iconst 0, 1) := by decide +kernel
theorem dX1_basicPay_3 : decode cX1_basicPay 3 = .ok (.invokevirtual 93, 3) := by decide +kernel
theorem dX1_basicPay_6 : decode cX1_basicPay 6 = .ok (.imul, 1) := by decide +kernel
theorem dX1_basicPay_7 : decode cX1_basicPay 7 = .ok (.iconst 3, 1) := by decide +kernel
theorem dX1_basicPay_8 : decode cX1_basicPay 8 = .ok (.aload_n 0, 1) := by decide +kernel
theorem dX1_basicPay_9 : decode cX1_basicPay 9 = .ok (.iconst 1, 1) := by decide +kernel
theorem dX1_basicPay_10 : decode cX1_basicPay 10 = .ok (.invokevirtual 93, 3) := by decide +kernel
theorem dX1_basicPay_13 : decode cX1_basicPay 13 = .ok (.imul, 1) := by decide +kernel
theorem dX1_basicPay_14 : decode cX1_basicPay 14 = .ok (.iadd, 1) := by decide +kernel
theorem dX1_basicPay_15 : decode cX1_basicPay 15 = .ok (.iconst 4, 1) := by decide +kernel
theorem dX1_basicPay_16 : decode cX1_basicPay 16 = .ok (.aload_n 0, 1) := by decide +kernel
theorem dX1_basicPay_17 : decode cX1_basicPay 17 = .ok (.iconst 2, 1) := by decide +kernel
theorem dX1_basicPay_18 : decode cX1_basicPay 18 = .ok (.invokevirtual 93, 3) := by decide +kernel
theorem dX1_basicPay_21 : decode cX1_basicPay 21 = .ok (.imul, 1) := by decide +kernel
theorem dX1_basicPay_22 : decode cX1_basicPay 22 = .ok (.iadd, 1) := by decide +kernel
theorem dX1_basicPay_23 : decode cX1_basicPay 23 = .ok (.istore_n 2, 1) := by decide +kernel
theorem dX1_basicPay_24 : decode cX1_basicPay 24 = .ok (.iload_n 1, 1) := by decide +kernel
theorem dX1_basicPay_25 : decode cX1_basicPay 25 = .ok (.iload_n 2, 1) := by decide +kernel
theorem dX1_basicPay_26 : decode cX1_basicPay 26 = .ok (.imul, 1) := by decide +kernel
theorem dX1_basicPay_27 : decode cX1_basicPay 27 = .ok (.iconst 4, 1) := by decide +kernel
theorem dX1_basicPay_28 : decode cX1_basicPay 28 = .ok (.iadd, 1) := by decide +kernel
theorem dX1_basicPay_29 : decode cX1_basicPay 29 = .ok (.bipush 8, 2) := by decide +kernel
theorem dX1_basicPay_31 : decode cX1_basicPay 31 = .ok (.idiv, 1) := by decide +kernel
theorem dX1_basicPay_32 : decode cX1_basicPay 32 = .ok (.ireturn, 1) := by decide +kernel
theorem dX6_init_0 : decode cX6_init 0 = .ok (.aload_n 0, 1) := by decide +kernel
theorem dX6_init_1 : decode cX6_init 1 = .ok (.invokespecial 3, 3) := by decide +kernel
theorem dX6_init_4 : decode cX6_init 4 = .ok (.aload_n 0, 1) := by decide +kernel
theorem dX6_init_5 : decode cX6_init 5 = .ok (.bipush 6, 2) := by decide +kernel
theorem dX6_init_7 : decode cX6_init 7 = .ok (.anewarray 9, 3) := by decide +kernel
theorem dX6_init_10 : decode cX6_init 10 = .ok (.putfield 11, 3) := by decide +kernel
theorem dX6_init_13 : decode cX6_init 13 = .ok (.aload_n 0, 1) := by decide +kernel
theorem dX6_init_14 : decode cX6_init 14 = .ok (.iconst 0, 1) := by decide +kernel
theorem dX6_init_15 : decode cX6_init 15 = .ok (.putfield 15, 3) := by decide +kernel
theorem dX6_init_18 : decode cX6_init 18 = .ok (.aload_n 0, 1) := by decide +kernel
theorem dX6_init_19 : decode cX6_init 19 = .ok (.new 19, 3) := by decide +kernel
theorem dX6_init_22 : decode cX6_init 22 = .ok (.dup, 1) := by decide +kernel
theorem dX6_init_23 : decode cX6_init 23 = .ok (.invokespecial 21, 3) := by decide +kernel
theorem dX6_init_26 : decode cX6_init 26 = .ok (.putfield 22, 3) := by decide +kernel
theorem dX6_init_29 : decode cX6_init 29 = .ok (.aload_n 0, 1) := by decide +kernel
theorem dX6_init_30 : decode cX6_init 30 = .ok (.new 26, 3) := by decide +kernel
theorem dX6_init_33 : decode cX6_init 33 = .ok (.dup, 1) := by decide +kernel
theorem dX6_init_34 : decode cX6_init 34 = .ok (.invokespecial 28, 3) := by decide +kernel
theorem dX6_init_37 : decode cX6_init 37 = .ok (.putfield 29, 3) := by decide +kernel
theorem dX6_init_40 : decode cX6_init 40 = .ok (.aload_n 0, 1) := by decide +kernel
theorem dX6_init_41 : decode cX6_init 41 = .ok (.aload_n 0, 1) := by decide +kernel
theorem dX6_init_42 : decode cX6_init 42 = .ok (.getfield 29, 3) := by decide +kernel
theorem dX6_init_45 : decode cX6_init 45 = .ok (.getfield 33, 3) := by decide +kernel
theorem dX6_init_48 : decode cX6_init 48 = .ok (.putfield 37, 3) := by decide +kernel
theorem dX6_init_51 : decode cX6_init 51 = .ok (.aload_n 0, 1) := by decide +kernel
theorem dX6_init_52 : decode cX6_init 52 = .ok (.aload_n 0, 1) := by decide +kernel
theorem dX6_init_53 : decode cX6_init 53 = .ok (.getfield 37, 3) := by decide +kernel
theorem dX6_init_56 : decode cX6_init 56 = .ok (.getfield 38, 3) := by decide +kernel
theorem dX6_init_59 : decode cX6_init 59 = .ok (.putfield 44, 3) := by decide +kernel
theorem dX6_init_62 : decode cX6_init 62 = .ok (.return_, 1) := by decide +kernel
theorem dX6_hire_0 : decode cX6_hire 0 = .ok (.iload_n 1, 1) := by decide +kernel
theorem dX6_hire_1 : decode cX6_hire 1 = .ok (.iconst 1, 1) := by decide +kernel
theorem dX6_hire_2 : decode cX6_hire 2 = .ok (.ldc 45, 2) := by decide +kernel
theorem dX6_hire_4 : decode cX6_hire 4 = .ok (.invokestatic 46, 3) := by decide +kernel
theorem dX6_hire_7 : decode cX6_hire 7 = .ok (.aload_n 0, 1) := by decide +kernel
theorem dX6_hire_8 : decode cX6_hire 8 = .ok (.getfield 15, 3) := by decide +kernel
theorem dX6_hire_11 : decode cX6_hire 11 = .ok (.istore_n 2, 1) := by decide +kernel
theorem dX6_hire_12 : decode cX6_hire 12 = .ok (.iload_n 2, 1) := by decide +kernel
theorem dX6_hire_13 : decode cX6_hire 13 = .ok (.ifCond .lt 12, 3) := by decide +kernel
theorem dX6_hire_16 : decode cX6_hire 16 = .ok (.iload_n 2, 1) := by decide +kernel
theorem dX6_hire_17 : decode cX6_hire 17 = .ok (.aload_n 0, 1) := by decide +kernel
theorem dX6_hire_18 : decode cX6_hire 18 = .ok (.getfield 11, 3) := by decide +kernel
theorem dX6_hire_21 : decode cX6_hire 21 = .ok (.arraylength, 1) := by decide +kernel
theorem dX6_hire_22 : decode cX6_hire 22 = .ok (.if_icmp .lt 13, 3) := by decide +kernel
theorem dX6_hire_25 : decode cX6_hire 25 = .ok (.new 50, 3) := by decide +kernel
theorem dX6_hire_28 : decode cX6_hire 28 = .ok (.dup, 1) := by decide +kernel
theorem dX6_hire_29 : decode cX6_hire 29 = .ok (.ldc 52, 2) := by decide +kernel
theorem dX6_hire_31 : decode cX6_hire 31 = .ok (.invokespecial 54, 3) := by decide +kernel
theorem dX6_hire_34 : decode cX6_hire 34 = .ok (.athrow, 1) := by decide +kernel
theorem dX6_hire_35 : decode cX6_hire 35 = .ok (.aload_n 0, 1) := by decide +kernel
theorem dX6_hire_36 : decode cX6_hire 36 = .ok (.getfield 11, 3) := by decide +kernel
theorem dX6_hire_39 : decode cX6_hire 39 = .ok (.iload_n 2, 1) := by decide +kernel
theorem dX6_hire_40 : decode cX6_hire 40 = .ok (.new 9, 3) := by decide +kernel
theorem dX6_hire_43 : decode cX6_hire 43 = .ok (.dup, 1) := by decide +kernel
theorem dX6_hire_44 : decode cX6_hire 44 = .ok (.iload_n 1, 1) := by decide +kernel
theorem dX6_hire_45 : decode cX6_hire 45 = .ok (.invokespecial 57, 3) := by decide +kernel
theorem dX6_hire_48 : decode cX6_hire 48 = .ok (.aastore, 1) := by decide +kernel
theorem dX6_hire_49 : decode cX6_hire 49 = .ok (.aload_n 0, 1) := by decide +kernel
theorem dX6_hire_50 : decode cX6_hire 50 = .ok (.iload_n 2, 1) := by decide +kernel
theorem dX6_hire_51 : decode cX6_hire 51 = .ok (.iconst 1, 1) := by decide +kernel
theorem dX6_hire_52 : decode cX6_hire 52 = .ok (.iadd, 1) := by decide +kernel
theorem dX6_hire_53 : decode cX6_hire 53 = .ok (.putfield 15, 3) := by decide +kernel
theorem dX6_hire_56 : decode cX6_hire 56 = .ok (.iload_n 2, 1) := by decide +kernel
theorem dX6_hire_57 : decode cX6_hire 57 = .ok (.ireturn, 1) := by decide +kernel
theorem dX6_enter_0 : decode cX6_enter 0 = .ok (.aload_n 0, 1) := by decide +kernel
theorem dX6_enter_1 : decode cX6_enter 1 = .ok (.iload_n 1, 1) := by decide +kernel
theorem dX6_enter_2 : decode cX6_enter 2 = .ok (.invokevirtual 60, 3) := by decide +kernel
theorem dX6_enter_5 : decode cX6_enter 5 = .ok (.getfield 109, 3) := by decide +kernel
theorem dX6_enter_8 : decode cX6_enter 8 = .ok (.iload_n 2, 1) := by decide +kernel
theorem dX6_enter_9 : decode cX6_enter 9 = .ok (.iload_n 3, 1) := by decide +kernel
theorem dX6_enter_10 : decode cX6_enter 10 = .ok (.bipush 20, 2) := by decide +kernel
theorem dX6_enter_12 : decode cX6_enter 12 = .ok (.invokestatic 112, 3) := by decide +kernel
theorem dX6_enter_15 : decode cX6_enter 15 = .ok (.ireturn, 1) := by decide +kernel
theorem dX6_enterBreak_0 : decode cX6_enterBreak 0 = .ok (.aload_n 0, 1) := by decide +kernel
theorem dX6_enterBreak_1 : decode cX6_enterBreak 1 = .ok (.iload_n 1, 1) := by decide +kernel
theorem dX6_enterBreak_2 : decode cX6_enterBreak 2 = .ok (.invokevirtual 60, 3) := by decide +kernel
theorem dX6_enterBreak_5 : decode cX6_enterBreak 5 = .ok (.getfield 119, 3) := by decide +kernel
theorem dX6_enterBreak_8 : decode cX6_enterBreak 8 = .ok (.iload_n 2, 1) := by decide +kernel
theorem dX6_enterBreak_9 : decode cX6_enterBreak 9 = .ok (.iload_n 3, 1) := by decide +kernel
theorem dX6_enterBreak_10 : decode cX6_enterBreak 10 = .ok (.bipush 20, 2) := by decide +kernel
theorem dX6_enterBreak_12 : decode cX6_enterBreak 12 = .ok (.invokestatic 112, 3) := by decide +kernel
theorem dX6_enterBreak_15 : decode cX6_enterBreak 15 = .ok (.ireturn, 1) := by decide +kernel
theorem dX6_addPremium_0 : decode cX6_addPremium 0 = .ok (.iload_n 1, 1) := by decide +kernel
theorem dX6_addPremium_1 : decode cX6_addPremium 1 = .ok (.iconst 1, 1) := by decide +kernel
theorem dX6_addPremium_2 : decode cX6_addPremium 2 = .ok (.bipush 127, 2) := by decide +kernel
theorem dX6_addPremium_4 : decode cX6_addPremium 4 = .ok (.invokestatic 46, 3) := by decide +kernel
theorem dX6_addPremium_7 : decode cX6_addPremium 7 = .ok (.iload_n 2, 1) := by decide +kernel
theorem dX6_addPremium_8 : decode cX6_addPremium 8 = .ok (.iconst 0, 1) := by decide +kernel
theorem dX6_addPremium_9 : decode cX6_addPremium 9 = .ok (.sipush 1439, 3) := by decide +kernel
theorem dX6_addPremium_12 : decode cX6_addPremium 12 = .ok (.invokestatic 46, 3) := by decide +kernel
theorem dX6_addPremium_15 : decode cX6_addPremium 15 = .ok (.iload_n 3, 1) := by decide +kernel
theorem dX6_addPremium_16 : decode cX6_addPremium 16 = .ok (.iconst 0, 1) := by decide +kernel
theorem dX6_addPremium_17 : decode cX6_addPremium 17 = .ok (.sipush 1439, 3) := by decide +kernel
theorem dX6_addPremium_20 : decode cX6_addPremium 20 = .ok (.invokestatic 46, 3) := by decide +kernel
theorem dX6_addPremium_23 : decode cX6_addPremium 23 = .ok (.iload 4, 2) := by decide +kernel
theorem dX6_addPremium_25 : decode cX6_addPremium 25 = .ok (.iconst 1, 1) := by decide +kernel
theorem dX6_addPremium_26 : decode cX6_addPremium 26 = .ok (.sipush 10000, 3) := by decide +kernel
theorem dX6_addPremium_29 : decode cX6_addPremium 29 = .ok (.invokestatic 46, 3) := by decide +kernel
theorem dX6_addPremium_32 : decode cX6_addPremium 32 = .ok (.aload_n 0, 1) := by decide +kernel
theorem dX6_addPremium_33 : decode cX6_addPremium 33 = .ok (.getfield 22, 3) := by decide +kernel
theorem dX6_addPremium_36 : decode cX6_addPremium 36 = .ok (.getfield 122, 3) := by decide +kernel
theorem dX6_addPremium_39 : decode cX6_addPremium 39 = .ok (.bipush 6, 2) := by decide +kernel
theorem dX6_addPremium_41 : decode cX6_addPremium 41 = .ok (.invokestatic 71, 3) := by decide +kernel
theorem dX6_addPremium_44 : decode cX6_addPremium 44 = .ok (.aload_n 0, 1) := by decide +kernel
theorem dX6_addPremium_45 : decode cX6_addPremium 45 = .ok (.getfield 22, 3) := by decide +kernel
theorem dX6_addPremium_48 : decode cX6_addPremium 48 = .ok (.iload_n 1, 1) := by decide +kernel
theorem dX6_addPremium_49 : decode cX6_addPremium 49 = .ok (.iload_n 2, 1) := by decide +kernel
theorem dX6_addPremium_50 : decode cX6_addPremium 50 = .ok (.iload_n 3, 1) := by decide +kernel
theorem dX6_addPremium_51 : decode cX6_addPremium 51 = .ok (.iload 4, 2) := by decide +kernel
theorem dX6_addPremium_53 : decode cX6_addPremium 53 = .ok (.invokevirtual 125, 3) := by decide +kernel
theorem dX6_addPremium_56 : decode cX6_addPremium 56 = .ok (.ireturn, 1) := by decide +kernel
theorem dX6_closeWeek_0 : decode cX6_closeWeek 0 = .ok (.aload_n 0, 1) := by decide +kernel
theorem dX6_closeWeek_1 : decode cX6_closeWeek 1 = .ok (.iload_n 1, 1) := by decide +kernel
theorem dX6_closeWeek_2 : decode cX6_closeWeek 2 = .ok (.invokevirtual 60, 3) := by decide +kernel
theorem dX6_closeWeek_5 : decode cX6_closeWeek 5 = .ok (.astore_n 2, 1) := by decide +kernel
theorem dX6_closeWeek_6 : decode cX6_closeWeek 6 = .ok (.aload_n 2, 1) := by decide +kernel
theorem dX6_closeWeek_7 : decode cX6_closeWeek 7 = .ok (.getfield 67, 3) := by decide +kernel
theorem dX6_closeWeek_10 : decode cX6_closeWeek 10 = .ok (.invokevirtual 93, 3) := by decide +kernel
theorem dX6_closeWeek_13 : decode cX6_closeWeek 13 = .ok (.ifCond .ne 23, 3) := by decide +kernel
theorem dX6_closeWeek_16 : decode cX6_closeWeek 16 = .ok (.aload_n 2, 1) := by decide +kernel
theorem dX6_closeWeek_17 : decode cX6_closeWeek 17 = .ok (.getfield 109, 3) := by decide +kernel
theorem dX6_closeWeek_20 : decode cX6_closeWeek 20 = .ok (.invokevirtual 93, 3) := by decide +kernel
theorem dX6_closeWeek_23 : decode cX6_closeWeek 23 = .ok (.ifCond .ne 13, 3) := by decide +kernel
theorem dX6_closeWeek_26 : decode cX6_closeWeek 26 = .ok (.new 50, 3) := by decide +kernel
theorem dX6_closeWeek_29 : decode cX6_closeWeek 29 = .ok (.dup, 1) := by decide +kernel
theorem dX6_closeWeek_30 : decode cX6_closeWeek 30 = .ok (.ldc 129, 2) := by decide +kernel
theorem dX6_closeWeek_32 : decode cX6_closeWeek 32 = .ok (.invokespecial 54, 3) := by decide +kernel
theorem dX6_closeWeek_35 : decode cX6_closeWeek 35 = .ok (.athrow, 1) := by decide +kernel
theorem dX6_closeWeek_36 : decode cX6_closeWeek 36 = .ok (.aload_n 0, 1) := by decide +kernel
theorem dX6_closeWeek_37 : decode cX6_closeWeek 37 = .ok (.getfield 29, 3) := by decide +kernel
theorem dX6_closeWeek_40 : decode cX6_closeWeek 40 = .ok (.aload_n 2, 1) := by decide +kernel
theorem dX6_closeWeek_41 : decode cX6_closeWeek 41 = .ok (.invokevirtual 131, 3) := by decide +kernel
theorem dX6_closeWeek_44 : decode cX6_closeWeek 44 = .ok (.aload_n 0, 1) := by decide +kernel
theorem dX6_closeWeek_45 : decode cX6_closeWeek 45 = .ok (.getfield 29, 3) := by decide +kernel
theorem dX6_closeWeek_48 : decode cX6_closeWeek 48 = .ok (.aload_n 2, 1) := by decide +kernel
theorem dX6_closeWeek_49 : decode cX6_closeWeek 49 = .ok (.getfield 64, 3) := by decide +kernel
theorem dX6_closeWeek_52 : decode cX6_closeWeek 52 = .ok (.invokevirtual 135, 3) := by decide +kernel
theorem dX6_closeWeek_55 : decode cX6_closeWeek 55 = .ok (.aload_n 0, 1) := by decide +kernel
theorem dX6_closeWeek_56 : decode cX6_closeWeek 56 = .ok (.getfield 22, 3) := by decide +kernel
theorem dX6_closeWeek_59 : decode cX6_closeWeek 59 = .ok (.aload_n 0, 1) := by decide +kernel
theorem dX6_closeWeek_60 : decode cX6_closeWeek 60 = .ok (.getfield 29, 3) := by decide +kernel
theorem dX6_closeWeek_63 : decode cX6_closeWeek 63 = .ok (.getfield 139, 3) := by decide +kernel
theorem dX6_closeWeek_66 : decode cX6_closeWeek 66 = .ok (.invokevirtual 142, 3) := by decide +kernel
theorem dX6_closeWeek_69 : decode cX6_closeWeek 69 = .ok (.iadd, 1) := by decide +kernel
theorem dX6_closeWeek_70 : decode cX6_closeWeek 70 = .ok (.istore_n 3, 1) := by decide +kernel
theorem dX6_closeWeek_71 : decode cX6_closeWeek 71 = .ok (.aload_n 2, 1) := by decide +kernel
theorem dX6_closeWeek_72 : decode cX6_closeWeek 72 = .ok (.iload_n 3, 1) := by decide +kernel
theorem dX6_closeWeek_73 : decode cX6_closeWeek 73 = .ok (.invokevirtual 146, 3) := by decide +kernel
theorem dX6_closeWeek_76 : decode cX6_closeWeek 76 = .ok (.iload_n 3, 1) := by decide +kernel
theorem dX6_closeWeek_77 : decode cX6_closeWeek 77 = .ok (.ireturn, 1) := by decide +kernel
theorem dX6_closedWeeks_0 : decode cX6_closedWeeks 0 = .ok (.aload_n 0, 1) := by decide +kernel
theorem dX6_closedWeeks_1 : decode cX6_closedWeeks 1 = .ok (.iload_n 1, 1) := by decide +kernel
theorem dX6_closedWeeks_2 : decode cX6_closedWeeks 2 = .ok (.invokevirtual 60, 3) := by decide +kernel
theorem dX6_closedWeeks_5 : decode cX6_closedWeeks 5 = .ok (.getfield 149, 3) := by decide +kernel
theorem dX6_closedWeeks_8 : decode cX6_closedWeeks 8 = .ok (.ireturn, 1) := by decide +kernel
theorem dX6_earned_0 : decode cX6_earned 0 = .ok (.aload_n 0, 1) := by decide +kernel
theorem dX6_earned_1 : decode cX6_earned 1 = .ok (.iload_n 1, 1) := by decide +kernel
theorem dX6_earned_2 : decode cX6_earned 2 = .ok (.invokevirtual 60, 3) := by decide +kernel
theorem dX6_earned_5 : decode cX6_earned 5 = .ok (.getfield 152, 3) := by decide +kernel
theorem dX6_earned_8 : decode cX6_earned 8 = .ok (.lreturn, 1) := by decide +kernel
theorem dX6_shifts_0 : decode cX6_shifts 0 = .ok (.aload_n 0, 1) := by decide +kernel
theorem dX6_shifts_1 : decode cX6_shifts 1 = .ok (.getfield 44, 3) := by decide +kernel
theorem dX6_shifts_4 : decode cX6_shifts 4 = .ok (.aload_n 0, 1) := by decide +kernel
theorem dX6_shifts_5 : decode cX6_shifts 5 = .ok (.iload_n 1, 1) := by decide +kernel
theorem dX6_shifts_6 : decode cX6_shifts 6 = .ok (.invokevirtual 60, 3) := by decide +kernel
theorem dX6_shifts_9 : decode cX6_shifts 9 = .ok (.getfield 67, 3) := by decide +kernel
theorem dX6_shifts_12 : decode cX6_shifts 12 = .ok (.invokevirtual 156, 3) := by decide +kernel
theorem dX6_shifts_15 : decode cX6_shifts 15 = .ok (.aload_n 0, 1) := by decide +kernel
theorem dX6_shifts_16 : decode cX6_shifts 16 = .ok (.getfield 44, 3) := by decide +kernel
theorem dX6_shifts_19 : decode cX6_shifts 19 = .ok (.getfield 161, 3) := by decide +kernel
theorem dX6_shifts_22 : decode cX6_shifts 22 = .ok (.invokevirtual 93, 3) := by decide +kernel
theorem dX6_shifts_25 : decode cX6_shifts 25 = .ok (.ireturn, 1) := by decide +kernel
theorem dX6_repairedShifts_0 : decode cX6_repairedShifts 0 = .ok (.aload_n 0, 1) := by decide +kernel
theorem dX6_repairedShifts_1 : decode cX6_repairedShifts 1 = .ok (.getfield 44, 3) := by decide +kernel
theorem dX6_repairedShifts_4 : decode cX6_repairedShifts 4 = .ok (.aload_n 0, 1) := by decide +kernel
theorem dX6_repairedShifts_5 : decode cX6_repairedShifts 5 = .ok (.iload_n 1, 1) := by decide +kernel
theorem dX6_repairedShifts_6 : decode cX6_repairedShifts 6 = .ok (.invokevirtual 60, 3) := by decide +kernel
theorem dX6_repairedShifts_9 : decode cX6_repairedShifts 9 = .ok (.getfield 67, 3) := by decide +kernel
theorem dX6_repairedShifts_12 : decode cX6_repairedShifts 12 = .ok (.invokevirtual 156, 3) := by decide +kernel
theorem dX6_repairedShifts_15 : decode cX6_repairedShifts 15 = .ok (.aload_n 0, 1) := by decide +kernel
theorem dX6_repairedShifts_16 : decode cX6_repairedShifts 16 = .ok (.getfield 44, 3) := by decide +kernel
theorem dX6_repairedShifts_19 : decode cX6_repairedShifts 19 = .ok (.getfield 167, 3) := by decide +kernel
theorem dX6_repairedShifts_22 : decode cX6_repairedShifts 22 = .ok (.ireturn, 1) := by decide +kernel
theorem dX6_overlap_0 : decode cX6_overlap 0 = .ok (.aload_n 0, 1) := by decide +kernel
theorem dX6_overlap_1 : decode cX6_overlap 1 = .ok (.getfield 37, 3) := by decide +kernel
theorem dX6_overlap_4 : decode cX6_overlap 4 = .ok (.aload_n 0, 1) := by decide +kernel
theorem dX6_overlap_5 : decode cX6_overlap 5 = .ok (.iload_n 1, 1) := by decide +kernel
theorem dX6_overlap_6 : decode cX6_overlap 6 = .ok (.invokevirtual 60, 3) := by decide +kernel
theorem dX6_overlap_9 : decode cX6_overlap 9 = .ok (.invokevirtual 173, 3) := by decide +kernel
theorem dX6_overlap_12 : decode cX6_overlap 12 = .ok (.aload_n 0, 1) := by decide +kernel
theorem dX6_overlap_13 : decode cX6_overlap 13 = .ok (.getfield 37, 3) := by decide +kernel
theorem dX6_overlap_16 : decode cX6_overlap 16 = .ok (.getfield 174, 3) := by decide +kernel
theorem dX6_overlap_19 : decode cX6_overlap 19 = .ok (.ireturn, 1) := by decide +kernel
theorem dX6_workedOn_0 : decode cX6_workedOn 0 = .ok (.aload_n 0, 1) := by decide +kernel
theorem dX6_workedOn_1 : decode cX6_workedOn 1 = .ok (.iload_n 1, 1) := by decide +kernel
theorem dX6_workedOn_2 : decode cX6_workedOn 2 = .ok (.invokevirtual 60, 3) := by decide +kernel
theorem dX6_workedOn_5 : decode cX6_workedOn 5 = .ok (.astore_n 3, 1) := by decide +kernel
theorem dX6_workedOn_6 : decode cX6_workedOn 6 = .ok (.iload_n 2, 1) := by decide +kernel
theorem dX6_workedOn_7 : decode cX6_workedOn 7 = .ok (.iconst 0, 1) := by decide +kernel
theorem dX6_workedOn_8 : decode cX6_workedOn 8 = .ok (.bipush 6, 2) := by decide +kernel
theorem dX6_workedOn_10 : decode cX6_workedOn 10 = .ok (.invokestatic 46, 3) := by decide +kernel
theorem dX6_workedOn_13 : decode cX6_workedOn 13 = .ok (.aload_n 0, 1) := by decide +kernel
theorem dX6_workedOn_14 : decode cX6_workedOn 14 = .ok (.getfield 37, 3) := by decide +kernel
theorem dX6_workedOn_17 : decode cX6_workedOn 17 = .ok (.aload_n 3, 1) := by decide +kernel
theorem dX6_workedOn_18 : decode cX6_workedOn 18 = .ok (.invokevirtual 173, 3) := by decide +kernel
theorem dX6_workedOn_21 : decode cX6_workedOn 21 = .ok (.aload_n 0, 1) := by decide +kernel
theorem dX6_workedOn_22 : decode cX6_workedOn 22 = .ok (.getfield 37, 3) := by decide +kernel
theorem dX6_workedOn_25 : decode cX6_workedOn 25 = .ok (.getfield 177, 3) := by decide +kernel
theorem dX6_workedOn_28 : decode cX6_workedOn 28 = .ok (.iload_n 2, 1) := by decide +kernel
theorem dX6_workedOn_29 : decode cX6_workedOn 29 = .ok (.invokestatic 180, 3) := by decide +kernel
theorem dX6_workedOn_32 : decode cX6_workedOn 32 = .ok (.ireturn, 1) := by decide +kernel
theorem dX6_stretches_0 : decode cX6_stretches 0 = .ok (.aload_n 0, 1) := by decide +kernel
theorem dX6_stretches_1 : decode cX6_stretches 1 = .ok (.getfield 37, 3) := by decide +kernel
theorem dX6_stretches_4 : decode cX6_stretches 4 = .ok (.aload_n 0, 1) := by decide +kernel
theorem dX6_stretches_5 : decode cX6_stretches 5 = .ok (.iload_n 1, 1) := by decide +kernel
theorem dX6_stretches_6 : decode cX6_stretches 6 = .ok (.invokevirtual 60, 3) := by decide +kernel
theorem dX6_stretches_9 : decode cX6_stretches 9 = .ok (.invokevirtual 173, 3) := by decide +kernel
theorem dX6_stretches_12 : decode cX6_stretches 12 = .ok (.aload_n 0, 1) := by decide +kernel
theorem dX6_stretches_13 : decode cX6_stretches 13 = .ok (.getfield 37, 3) := by decide +kernel
theorem dX6_stretches_16 : decode cX6_stretches 16 = .ok (.getfield 177, 3) := by decide +kernel
theorem dX6_stretches_19 : decode cX6_stretches 19 = .ok (.invokevirtual 93, 3) := by decide +kernel
theorem dX6_stretches_22 : decode cX6_stretches 22 = .ok (.ireturn, 1) := by decide +kernel
theorem dX6_longestStretch_0 : decode cX6_longestStretch 0 = .ok (.aload_n 0, 1) := by decide +kernel
theorem dX6_longestStretch_1 : decode cX6_longestStretch 1 = .ok (.getfield 37, 3) := by decide +kernel
theorem dX6_longestStretch_4 : decode cX6_longestStretch 4 = .ok (.aload_n 0, 1) := by decide +kernel
theorem dX6_longestStretch_5 : decode cX6_longestStretch 5 = .ok (.iload_n 1, 1) := by decide +kernel
theorem dX6_longestStretch_6 : decode cX6_longestStretch 6 = .ok (.invokevirtual 60, 3) := by decide +kernel
theorem dX6_longestStretch_9 : decode cX6_longestStretch 9 = .ok (.invokevirtual 173, 3) := by decide +kernel
theorem dX6_longestStretch_12 : decode cX6_longestStretch 12 = .ok (.aload_n 0, 1) := by decide +kernel
theorem dX6_longestStretch_13 : decode cX6_longestStretch 13 = .ok (.getfield 37, 3) := by decide +kernel
theorem dX6_longestStretch_16 : decode cX6_longestStretch 16 = .ok (.getfield 177, 3) := by decide +kernel
theorem dX6_longestStretch_19 : decode cX6_longestStretch 19 = .ok (.invokestatic 183, 3) := by decide +kernel
theorem dX6_longestStretch_22 : decode cX6_longestStretch 22 = .ok (.ireturn, 1) := by decide +kernel
theorem dX6_minutes_0 : decode cX6_minutes 0 = .ok (.aload_n 0, 1) := by decide +kernel
theorem dX6_minutes_1 : decode cX6_minutes 1 = .ok (.iload_n 1, 1) := by decide +kernel
theorem dX6_minutes_2 : decode cX6_minutes 2 = .ok (.invokevirtual 60, 3) := by decide +kernel
theorem dX6_minutes_5 : decode cX6_minutes 5 = .ok (.astore 4, 2) := by decide +kernel
theorem dX6_minutes_7 : decode cX6_minutes 7 = .ok (.iload_n 2, 1) := by decide +kernel
theorem dX6_minutes_8 : decode cX6_minutes 8 = .ok (.iconst 0, 1) := by decide +kernel
theorem dX6_minutes_9 : decode cX6_minutes 9 = .ok (.bipush 6, 2) := by decide +kernel
theorem dX6_minutes_11 : decode cX6_minutes 11 = .ok (.invokestatic 46, 3) := by decide +kernel
theorem dX6_minutes_14 : decode cX6_minutes 14 = .ok (.iload_n 3, 1) := by decide +kernel
theorem dX6_minutes_15 : decode cX6_minutes 15 = .ok (.iconst 0, 1) := by decide +kernel
theorem dX6_minutes_16 : decode cX6_minutes 16 = .ok (.iconst 2, 1) := by decide +kernel
theorem dX6_minutes_17 : decode cX6_minutes 17 = .ok (.invokestatic 46, 3) := by decide +kernel
theorem dX6_minutes_20 : decode cX6_minutes 20 = .ok (.aload_n 0, 1) := by decide +kernel
theorem dX6_minutes_21 : decode cX6_minutes 21 = .ok (.getfield 29, 3) := by decide +kernel
theorem dX6_minutes_24 : decode cX6_minutes 24 = .ok (.aload 4, 2) := by decide +kernel
theorem dX6_minutes_26 : decode cX6_minutes 26 = .ok (.invokevirtual 131, 3) := by decide +kernel
theorem dX6_minutes_29 : decode cX6_minutes 29 = .ok (.aload_n 0, 1) := by decide +kernel
theorem dX6_minutes_30 : decode cX6_minutes 30 = .ok (.getfield 29, 3) := by decide +kernel
theorem dX6_minutes_33 : decode cX6_minutes 33 = .ok (.iload_n 2, 1) := by decide +kernel
theorem dX6_minutes_34 : decode cX6_minutes 34 = .ok (.iload_n 3, 1) := by decide +kernel
theorem dX6_minutes_35 : decode cX6_minutes 35 = .ok (.invokevirtual 189, 3) := by decide +kernel
theorem dX6_minutes_38 : decode cX6_minutes 38 = .ok (.ireturn, 1) := by decide +kernel
theorem dX6_quarters_0 : decode cX6_quarters 0 = .ok (.aload_n 0, 1) := by decide +kernel
theorem dX6_quarters_1 : decode cX6_quarters 1 = .ok (.iload_n 1, 1) := by decide +kernel
theorem dX6_quarters_2 : decode cX6_quarters 2 = .ok (.invokevirtual 60, 3) := by decide +kernel
theorem dX6_quarters_5 : decode cX6_quarters 5 = .ok (.astore 4, 2) := by decide +kernel
theorem dX6_quarters_7 : decode cX6_quarters 7 = .ok (.iload_n 2, 1) := by decide +kernel
theorem dX6_quarters_8 : decode cX6_quarters 8 = .ok (.iconst 0, 1) := by decide +kernel
theorem dX6_quarters_9 : decode cX6_quarters 9 = .ok (.bipush 6, 2) := by decide +kernel
theorem dX6_quarters_11 : decode cX6_quarters 11 = .ok (.invokestatic 46, 3) := by decide +kernel
theorem dX6_quarters_14 : decode cX6_quarters 14 = .ok (.iload_n 3, 1) := by decide +kernel
theorem dX6_quarters_15 : decode cX6_quarters 15 = .ok (.iconst 0, 1) := by decide +kernel
theorem dX6_quarters_16 : decode cX6_quarters 16 = .ok (.iconst 2, 1) := by decide +kernel
theorem dX6_quarters_17 : decode cX6_quarters 17 = .ok (.invokestatic 46, 3) := by decide +kernel
theorem dX6_quarters_20 : decode cX6_quarters 20 = .ok (.aload_n 0, 1) := by decide +kernel
theorem dX6_quarters_21 : decode cX6_quarters 21 = .ok (.getfield 29, 3) := by decide +kernel
theorem dX6_quarters_24 : decode cX6_quarters 24 = .ok (.aload 4, 2) := by decide +kernel
theorem dX6_quarters_26 : decode cX6_quarters 26 = .ok (.invokevirtual 131, 3) := by decide +kernel
theorem dX6_quarters_29 : decode cX6_quarters 29 = .ok (.aload_n 0, 1) := by decide +kernel
theorem dX6_quarters_30 : decode cX6_quarters 30 = .ok (.getfield 29, 3) := by decide +kernel
theorem dX6_quarters_33 : decode cX6_quarters 33 = .ok (.iload_n 2, 1) := by decide +kernel
theorem dX6_quarters_34 : decode cX6_quarters 34 = .ok (.iload_n 3, 1) := by decide +kernel
theorem dX6_quarters_35 : decode cX6_quarters 35 = .ok (.invokevirtual 192, 3) := by decide +kernel
theorem dX6_quarters_38 : decode cX6_quarters 38 = .ok (.ireturn, 1) := by decide +kernel
theorem dX6_premiumPay_0 : decode cX6_premiumPay 0 = .ok (.aload_n 0, 1) := by decide +kernel
theorem dX6_premiumPay_1 : decode cX6_premiumPay 1 = .ok (.getfield 29, 3) := by decide +kernel
theorem dX6_premiumPay_4 : decode cX6_premiumPay 4 = .ok (.aload_n 0, 1) := by decide +kernel
theorem dX6_premiumPay_5 : decode cX6_premiumPay 5 = .ok (.iload_n 1, 1) := by decide +kernel
theorem dX6_premiumPay_6 : decode cX6_premiumPay 6 = .ok (.invokevirtual 60, 3) := by decide +kernel
theorem dX6_premiumPay_9 : decode cX6_premiumPay 9 = .ok (.invokevirtual 131, 3) := by decide +kernel
theorem dX6_premiumPay_12 : decode cX6_premiumPay 12 = .ok (.aload_n 0, 1) := by decide +kernel
theorem dX6_premiumPay_13 : decode cX6_premiumPay 13 = .ok (.getfield 22, 3) := by decide +kernel
theorem dX6_premiumPay_16 : decode cX6_premiumPay 16 = .ok (.aload_n 0, 1) := by decide +kernel
theorem dX6_premiumPay_17 : decode cX6_premiumPay 17 = .ok (.getfield 29, 3) := by decide +kernel
theorem dX6_premiumPay_20 : decode cX6_premiumPay 20 = .ok (.getfield 139, 3) := by decide +kernel
theorem dX6_premiumPay_23 : decode cX6_premiumPay 23 = .ok (.invokevirtual 142, 3) := by decide +kernel
theorem dX6_premiumPay_26 : decode cX6_premiumPay 26 = .ok (.ireturn, 1) := by decide +kernel
theorem dX6_pay_0 : decode cX6_pay 0 = .ok (.aload_n 0, 1) := by decide +kernel
theorem dX6_pay_1 : decode cX6_pay 1 = .ok (.iload_n 1, 1) := by decide +kernel
theorem dX6_pay_2 : decode cX6_pay 2 = .ok (.invokevirtual 60, 3) := by decide +kernel
theorem dX6_pay_5 : decode cX6_pay 5 = .ok (.astore_n 2, 1) := by decide +kernel
theorem dX6_pay_6 : decode cX6_pay 6 = .ok (.aload_n 0, 1) := by decide +kernel
theorem dX6_pay_7 : decode cX6_pay 7 = .ok (.getfield 29, 3) := by decide +kernel
theorem dX6_pay_10 : decode cX6_pay 10 = .ok (.aload_n 2, 1) := by decide +kernel
theorem dX6_pay_11 : decode cX6_pay 11 = .ok (.invokevirtual 131, 3) := by decide +kernel
theorem dX6_pay_14 : decode cX6_pay 14 = .ok (.aload_n 0, 1) := by decide +kernel
theorem dX6_pay_15 : decode cX6_pay 15 = .ok (.getfield 29, 3) := by decide +kernel
theorem dX6_pay_18 : decode cX6_pay 18 = .ok (.aload_n 2, 1) := by decide +kernel
theorem dX6_pay_19 : decode cX6_pay 19 = .ok (.getfield 64, 3) := by decide +kernel
theorem dX6_pay_22 : decode cX6_pay 22 = .ok (.invokevirtual 135, 3) := by decide +kernel
theorem dX6_pay_25 : decode cX6_pay 25 = .ok (.aload_n 0, 1) := by decide +kernel
theorem dX6_pay_26 : decode cX6_pay 26 = .ok (.getfield 22, 3) := by decide +kernel
theorem dX6_pay_29 : decode cX6_pay 29 = .ok (.aload_n 0, 1) := by decide +kernel
theorem dX6_pay_30 : decode cX6_pay 30 = .ok (.getfield 29, 3) := by decide +kernel
theorem dX6_pay_33 : decode cX6_pay 33 = .ok (.getfield 139, 3) := by decide +kernel
theorem dX6_pay_36 : decode cX6_pay 36 = .ok (.invokevirtual 142, 3) := by decide +kernel
theorem dX6_pay_39 : decode cX6_pay 39 = .ok (.iadd, 1) := by decide +kernel
theorem dX6_pay_40 : decode cX6_pay 40 = .ok (.ireturn, 1) := by decide +kernel
theorem dX6_find_0 : decode cX6_find 0 = .ok (.iload_n 1, 1) := by decide +kernel
theorem dX6_find_1 : decode cX6_find 1 = .ok (.ifCond .lt 20, 3) := by decide +kernel
theorem dX6_find_4 : decode cX6_find 4 = .ok (.iload_n 1, 1) := by decide +kernel
theorem dX6_find_5 : decode cX6_find 5 = .ok (.aload_n 0, 1) := by decide +kernel
theorem dX6_find_6 : decode cX6_find 6 = .ok (.getfield 15, 3) := by decide +kernel
theorem dX6_find_9 : decode cX6_find 9 = .ok (.if_icmp .ge 12, 3) := by decide +kernel
theorem dX6_find_12 : decode cX6_find 12 = .ok (.iload_n 1, 1) := by decide +kernel
theorem dX6_find_13 : decode cX6_find 13 = .ok (.aload_n 0, 1) := by decide +kernel
theorem dX6_find_14 : decode cX6_find 14 = .ok (.getfield 11, 3) := by decide +kernel
theorem dX6_find_17 : decode cX6_find 17 = .ok (.arraylength, 1) := by decide +kernel
theorem dX6_find_18 : decode cX6_find 18 = .ok (.if_icmp .lt 13, 3) := by decide +kernel
theorem dX6_find_21 : decode cX6_find 21 = .ok (.new 195, 3) := by decide +kernel
theorem dX6_find_24 : decode cX6_find 24 = .ok (.dup, 1) := by decide +kernel
theorem dX6_find_25 : decode cX6_find 25 = .ok (.ldc 197, 2) := by decide +kernel
theorem dX6_find_27 : decode cX6_find 27 = .ok (.invokespecial 199, 3) := by decide +kernel
theorem dX6_find_30 : decode cX6_find 30 = .ok (.athrow, 1) := by decide +kernel
theorem dX6_find_31 : decode cX6_find 31 = .ok (.aload_n 0, 1) := by decide +kernel
theorem dX6_find_32 : decode cX6_find 32 = .ok (.getfield 11, 3) := by decide +kernel
theorem dX6_find_35 : decode cX6_find 35 = .ok (.iload_n 1, 1) := by decide +kernel
theorem dX6_find_36 : decode cX6_find 36 = .ok (.aaload, 1) := by decide +kernel
theorem dX6_find_37 : decode cX6_find 37 = .ok (.astore_n 2, 1) := by decide +kernel
theorem dX6_find_38 : decode cX6_find 38 = .ok (.aload_n 2, 1) := by decide +kernel
theorem dX6_find_39 : decode cX6_find 39 = .ok (.ifnonnull 13, 3) := by decide +kernel
theorem dX6_find_42 : decode cX6_find 42 = .ok (.new 195, 3) := by decide +kernel
theorem dX6_find_45 : decode cX6_find 45 = .ok (.dup, 1) := by decide +kernel
theorem dX6_find_46 : decode cX6_find 46 = .ok (.ldc 197, 2) := by decide +kernel
theorem dX6_find_48 : decode cX6_find 48 = .ok (.invokespecial 199, 3) := by decide +kernel
theorem dX6_find_51 : decode cX6_find 51 = .ok (.athrow, 1) := by decide +kernel
theorem dX6_find_52 : decode cX6_find 52 = .ok (.aload_n 2, 1) := by decide +kernel
theorem dX6_find_53 : decode cX6_find 53 = .ok (.areturn, 1) := by decide +kernel
theorem dX6_requireWithin_0 : decode cX6_requireWithin 0 = .ok (.iload_n 0, 1) := by decide +kernel
theorem dX6_requireWithin_1 : decode cX6_requireWithin 1 = .ok (.iload_n 1, 1) := by decide +kernel
theorem dX6_requireWithin_2 : decode cX6_requireWithin 2 = .ok (.if_icmp .lt 8, 3) := by decide +kernel
theorem dX6_requireWithin_5 : decode cX6_requireWithin 5 = .ok (.iload_n 0, 1) := by decide +kernel
theorem dX6_requireWithin_6 : decode cX6_requireWithin 6 = .ok (.iload_n 2, 1) := by decide +kernel
theorem dX6_requireWithin_7 : decode cX6_requireWithin 7 = .ok (.if_icmp .le 13, 3) := by decide +kernel
theorem dX6_requireWithin_10 : decode cX6_requireWithin 10 = .ok (.new 200, 3) := by decide +kernel
theorem dX6_requireWithin_13 : decode cX6_requireWithin 13 = .ok (.dup, 1) := by decide +kernel
theorem dX6_requireWithin_14 : decode cX6_requireWithin 14 = .ok (.ldc 202, 2) := by decide +kernel
theorem dX6_requireWithin_16 : decode cX6_requireWithin 16 = .ok (.invokespecial 204, 3) := by decide +kernel
theorem dX6_requireWithin_19 : decode cX6_requireWithin 19 = .ok (.athrow, 1) := by decide +kernel
theorem dX6_requireWithin_20 : decode cX6_requireWithin 20 = .ok (.return_, 1) := by decide +kernel
theorem dX6_requireRoom_0 : decode cX6_requireRoom 0 = .ok (.aload_n 0, 1) := by decide +kernel
theorem dX6_requireRoom_1 : decode cX6_requireRoom 1 = .ok (.invokevirtual 93, 3) := by decide +kernel
theorem dX6_requireRoom_4 : decode cX6_requireRoom 4 = .ok (.iload_n 1, 1) := by decide +kernel
theorem dX6_requireRoom_5 : decode cX6_requireRoom 5 = .ok (.if_icmp .lt 13, 3) := by decide +kernel
theorem dX6_requireRoom_8 : decode cX6_requireRoom 8 = .ok (.new 50, 3) := by decide +kernel
theorem dX6_requireRoom_11 : decode cX6_requireRoom 11 = .ok (.dup, 1) := by decide +kernel
theorem dX6_requireRoom_12 : decode cX6_requireRoom 12 = .ok (.ldc 205, 2) := by decide +kernel
theorem dX6_requireRoom_14 : decode cX6_requireRoom 14 = .ok (.invokespecial 54, 3) := by decide +kernel
theorem dX6_requireRoom_17 : decode cX6_requireRoom 17 = .ok (.athrow, 1) := by decide +kernel
theorem dX6_requireRoom_18 : decode cX6_requireRoom 18 = .ok (.return_, 1) := by decide +kernel
theorem dX6_addByHand_0 : decode cX6_addByHand 0 = .ok (.iload_n 1, 1) := by decide +kernel
theorem dX6_addByHand_1 : decode cX6_addByHand 1 = .ok (.iconst 0, 1) := by decide +kernel
theorem dX6_addByHand_2 : decode cX6_addByHand 2 = .ok (.sipush 10079, 3) := by decide +kernel
theorem dX6_addByHand_5 : decode cX6_addByHand 5 = .ok (.invokestatic 46, 3) := by decide +kernel
theorem dX6_addByHand_8 : decode cX6_addByHand 8 = .ok (.iload_n 2, 1) := by decide +kernel
theorem dX6_addByHand_9 : decode cX6_addByHand 9 = .ok (.iload_n 1, 1) := by decide +kernel
theorem dX6_addByHand_10 : decode cX6_addByHand 10 = .ok (.iconst 1, 1) := by decide +kernel
theorem dX6_addByHand_11 : decode cX6_addByHand 11 = .ok (.iadd, 1) := by decide +kernel
theorem dX6_addByHand_12 : decode cX6_addByHand 12 = .ok (.sipush 10080, 3) := by decide +kernel
theorem dX6_addByHand_15 : decode cX6_addByHand 15 = .ok (.invokestatic 46, 3) := by decide +kernel
theorem dX6_addByHand_18 : decode cX6_addByHand 18 = .ok (.aload_n 0, 1) := by decide +kernel
theorem dX6_addByHand_19 : decode cX6_addByHand 19 = .ok (.iload_n 3, 1) := by decide +kernel
theorem dX6_addByHand_20 : decode cX6_addByHand 20 = .ok (.invokestatic 71, 3) := by decide +kernel
theorem dX6_addByHand_23 : decode cX6_addByHand 23 = .ok (.aload_n 0, 1) := by decide +kernel
theorem dX6_addByHand_24 : decode cX6_addByHand 24 = .ok (.iload_n 1, 1) := by decide +kernel
theorem dX6_addByHand_25 : decode cX6_addByHand 25 = .ok (.iload_n 2, 1) := by decide +kernel
theorem dX6_addByHand_26 : decode cX6_addByHand 26 = .ok (.invokevirtual 209, 3) := by decide +kernel
theorem dX6_addByHand_29 : decode cX6_addByHand 29 = .ok (.aload_n 0, 1) := by decide +kernel
theorem dX6_addByHand_30 : decode cX6_addByHand 30 = .ok (.invokevirtual 93, 3) := by decide +kernel
theorem dX6_addByHand_33 : decode cX6_addByHand 33 = .ok (.iconst 1, 1) := by decide +kernel
theorem dX6_addByHand_34 : decode cX6_addByHand 34 = .ok (.isub, 1) := by decide +kernel
theorem dX6_addByHand_35 : decode cX6_addByHand 35 = .ok (.ireturn, 1) := by decide +kernel
theorem dX6_minutesOnDay_0 : decode cX6_minutesOnDay 0 = .ok (.iconst 0, 1) := by decide +kernel
theorem dX6_minutesOnDay_1 : decode cX6_minutesOnDay 1 = .ok (.istore_n 2, 1) := by decide +kernel
theorem dX6_minutesOnDay_2 : decode cX6_minutesOnDay 2 = .ok (.iconst 0, 1) := by decide +kernel
theorem dX6_minutesOnDay_3 : decode cX6_minutesOnDay 3 = .ok (.istore_n 3, 1) := by decide +kernel
theorem dX6_minutesOnDay_4 : decode cX6_minutesOnDay 4 = .ok (.iload_n 3, 1) := by decide +kernel
theorem dX6_minutesOnDay_5 : decode cX6_minutesOnDay 5 = .ok (.aload_n 0, 1) := by decide +kernel
theorem dX6_minutesOnDay_6 : decode cX6_minutesOnDay 6 = .ok (.invokevirtual 93, 3) := by decide +kernel
theorem dX6_minutesOnDay_9 : decode cX6_minutesOnDay 9 = .ok (.if_icmp .ge 55, 3) := by decide +kernel
theorem dX6_minutesOnDay_12 : decode cX6_minutesOnDay 12 = .ok (.aload_n 0, 1) := by decide +kernel
theorem dX6_minutesOnDay_13 : decode cX6_minutesOnDay 13 = .ok (.iload_n 3, 1) := by decide +kernel
theorem dX6_minutesOnDay_14 : decode cX6_minutesOnDay 14 = .ok (.iconst 0, 1) := by decide +kernel
theorem dX6_minutesOnDay_15 : decode cX6_minutesOnDay 15 = .ok (.invokevirtual 102, 3) := by decide +kernel
theorem dX6_minutesOnDay_18 : decode cX6_minutesOnDay 18 = .ok (.iload_n 1, 1) := by decide +kernel
theorem dX6_minutesOnDay_19 : decode cX6_minutesOnDay 19 = .ok (.sipush 1440, 3) := by decide +kernel
theorem dX6_minutesOnDay_22 : decode cX6_minutesOnDay 22 = .ok (.imul, 1) := by decide +kernel
theorem dX6_minutesOnDay_23 : decode cX6_minutesOnDay 23 = .ok (.invokestatic 213, 3) := by decide +kernel
theorem dX6_minutesOnDay_26 : decode cX6_minutesOnDay 26 = .ok (.istore 4, 2) := by decide +kernel
theorem dX6_minutesOnDay_28 : decode cX6_minutesOnDay 28 = .ok (.aload_n 0, 1) := by decide +kernel
theorem dX6_minutesOnDay_29 : decode cX6_minutesOnDay 29 = .ok (.iload_n 3, 1) := by decide +kernel
theorem dX6_minutesOnDay_30 : decode cX6_minutesOnDay 30 = .ok (.iconst 1, 1) := by decide +kernel
theorem dX6_minutesOnDay_31 : decode cX6_minutesOnDay 31 = .ok (.invokevirtual 102, 3) := by decide +kernel
theorem dX6_minutesOnDay_34 : decode cX6_minutesOnDay 34 = .ok (.iload_n 1, 1) := by decide +kernel
theorem dX6_minutesOnDay_35 : decode cX6_minutesOnDay 35 = .ok (.iconst 1, 1) := by decide +kernel
theorem dX6_minutesOnDay_36 : decode cX6_minutesOnDay 36 = .ok (.iadd, 1) := by decide +kernel
theorem dX6_minutesOnDay_37 : decode cX6_minutesOnDay 37 = .ok (.sipush 1440, 3) := by decide +kernel
theorem dX6_minutesOnDay_40 : decode cX6_minutesOnDay 40 = .ok (.imul, 1) := by decide +kernel
theorem dX6_minutesOnDay_41 : decode cX6_minutesOnDay 41 = .ok (.invokestatic 218, 3) := by decide +kernel
theorem dX6_minutesOnDay_44 : decode cX6_minutesOnDay 44 = .ok (.istore 5, 2) := by decide +kernel
theorem dX6_minutesOnDay_46 : decode cX6_minutesOnDay 46 = .ok (.iload_n 2, 1) := by decide +kernel
theorem dX6_minutesOnDay_47 : decode cX6_minutesOnDay 47 = .ok (.iload 5, 2) := by decide +kernel
theorem dX6_minutesOnDay_49 : decode cX6_minutesOnDay 49 = .ok (.iload 4, 2) := by decide +kernel
theorem dX6_minutesOnDay_51 : decode cX6_minutesOnDay 51 = .ok (.isub, 1) := by decide +kernel
theorem dX6_minutesOnDay_52 : decode cX6_minutesOnDay 52 = .ok (.iconst 0, 1) := by decide +kernel
theorem dX6_minutesOnDay_53 : decode cX6_minutesOnDay 53 = .ok (.invokestatic 213, 3) := by decide +kernel
theorem dX6_minutesOnDay_56 : decode cX6_minutesOnDay 56 = .ok (.iadd, 1) := by decide +kernel
theorem dX6_minutesOnDay_57 : decode cX6_minutesOnDay 57 = .ok (.istore_n 2, 1) := by decide +kernel
theorem dX6_minutesOnDay_58 : decode cX6_minutesOnDay 58 = .ok (.iinc 3 1, 3) := by decide +kernel
theorem dX6_minutesOnDay_61 : decode cX6_minutesOnDay 61 = .ok (.goto (-57), 3) := by decide +kernel
theorem dX6_minutesOnDay_64 : decode cX6_minutesOnDay 64 = .ok (.iload_n 2, 1) := by decide +kernel
theorem dX6_minutesOnDay_65 : decode cX6_minutesOnDay 65 = .ok (.ireturn, 1) := by decide +kernel
theorem dX6_longest_0 : decode cX6_longest 0 = .ok (.iconst 0, 1) := by decide +kernel
theorem dX6_longest_1 : decode cX6_longest 1 = .ok (.istore_n 1, 1) := by decide +kernel
theorem dX6_longest_2 : decode cX6_longest 2 = .ok (.iconst 0, 1) := by decide +kernel
theorem dX6_longest_3 : decode cX6_longest 3 = .ok (.istore_n 2, 1) := by decide +kernel
theorem dX6_longest_4 : decode cX6_longest 4 = .ok (.iload_n 2, 1) := by decide +kernel
theorem dX6_longest_5 : decode cX6_longest 5 = .ok (.aload_n 0, 1) := by decide +kernel
theorem dX6_longest_6 : decode cX6_longest 6 = .ok (.invokevirtual 93, 3) := by decide +kernel
theorem dX6_longest_9 : decode cX6_longest 9 = .ok (.if_icmp .ge 27, 3) := by decide +kernel
theorem dX6_longest_12 : decode cX6_longest 12 = .ok (.iload_n 1, 1) := by decide +kernel
theorem dX6_longest_13 : decode cX6_longest 13 = .ok (.aload_n 0, 1) := by decide +kernel
theorem dX6_longest_14 : decode cX6_longest 14 = .ok (.iload_n 2, 1) := by decide +kernel
theorem dX6_longest_15 : decode cX6_longest 15 = .ok (.iconst 1, 1) := by decide +kernel
theorem dX6_longest_16 : decode cX6_longest 16 = .ok (.invokevirtual 102, 3) := by decide +kernel
theorem dX6_longest_19 : decode cX6_longest 19 = .ok (.aload_n 0, 1) := by decide +kernel
theorem dX6_longest_20 : decode cX6_longest 20 = .ok (.iload_n 2, 1) := by decide +kernel
theorem dX6_longest_21 : decode cX6_longest 21 = .ok (.iconst 0, 1) := by decide +kernel
theorem dX6_longest_22 : decode cX6_longest 22 = .ok (.invokevirtual 102, 3) := by decide +kernel
theorem dX6_longest_25 : decode cX6_longest 25 = .ok (.isub, 1) := by decide +kernel
theorem dX6_longest_26 : decode cX6_longest 26 = .ok (.invokestatic 213, 3) := by decide +kernel
theorem dX6_longest_29 : decode cX6_longest 29 = .ok (.istore_n 1, 1) := by decide +kernel
theorem dX6_longest_30 : decode cX6_longest 30 = .ok (.iinc 2 1, 3) := by decide +kernel
theorem dX6_longest_33 : decode cX6_longest 33 = .ok (.goto (-29), 3) := by decide +kernel
theorem dX6_longest_36 : decode cX6_longest 36 = .ok (.iload_n 1, 1) := by decide +kernel
theorem dX6_longest_37 : decode cX6_longest 37 = .ok (.ireturn, 1) := by decide +kernel
theorem dJ9_max_7cf53_0 : decode cJ9_max_7cf53 0 = .ok (.iload_n 0, 1) := by decide +kernel
theorem dJ9_max_7cf53_1 : decode cJ9_max_7cf53 1 = .ok (.iload_n 1, 1) := by decide +kernel
theorem dJ9_max_7cf53_2 : decode cJ9_max_7cf53 2 = .ok (.if_icmp .lt 7, 3) := by decide +kernel
theorem dJ9_max_7cf53_5 : decode cJ9_max_7cf53 5 = .ok (.iload_n 0, 1) := by decide +kernel
theorem dJ9_max_7cf53_6 : decode cJ9_max_7cf53 6 = .ok (.goto 4, 3) := by decide +kernel
theorem dJ9_max_7cf53_9 : decode cJ9_max_7cf53 9 = .ok (.iload_n 1, 1) := by decide +kernel
theorem dJ9_max_7cf53_10 : decode cJ9_max_7cf53 10 = .ok (.ireturn, 1) := by decide +kernel
theorem dJ9_min_7cf53_0 : decode cJ9_min_7cf53 0 = .ok (.iload_n 0, 1) := by decide +kernel
theorem dJ9_min_7cf53_1 : decode cJ9_min_7cf53 1 = .ok (.iload_n 1, 1) := by decide +kernel
theorem dJ9_min_7cf53_2 : decode cJ9_min_7cf53 2 = .ok (.if_icmp .gt 7, 3) := by decide +kernel
theorem dJ9_min_7cf53_5 : decode cJ9_min_7cf53 5 = .ok (.iload_n 0, 1) := by decide +kernel
theorem dJ9_min_7cf53_6 : decode cJ9_min_7cf53 6 = .ok (.goto 4, 3) := by decide +kernel
theorem dJ9_min_7cf53_9 : decode cJ9_min_7cf53 9 = .ok (.iload_n 1, 1) := by decide +kernel
theorem dJ9_min_7cf53_10 : decode cJ9_min_7cf53 10 = .ok (.ireturn, 1) := by decide +kernel
end
section
theorem dL_cell_0 : decode cL_cell 0 = .ok (.iload_n 1, 1) := by decide +kernel
theorem dL_cell_1 : decode cL_cell 1 = .ok (.aload_n 0, 1) := by decide +kernel
theorem dL_cell_2 : decode cL_cell 2 = .ok (.arraylength, 1) := by decide +kernel
theorem dL_cell_3 : decode cL_cell 3 = .ok (.if_icmp .ge 9, 3) := by decide +kernel
theorem dL_cell_6 : decode cL_cell 6 = .ok (.aload_n 0, 1) := by decide +kernel
theorem dL_cell_7 : decode cL_cell 7 = .ok (.iload_n 1, 1) := by decide +kernel
theorem dL_cell_8 : decode cL_cell 8 = .ok (.iaload, 1) := by decide +kernel
theorem dL_cell_9 : decode cL_cell 9 = .ok (.goto 15, 3) := by decide +kernel
theorem dL_cell_12 : decode cL_cell 12 = .ok (.sipush 7919, 3) := by decide +kernel
theorem dL_cell_15 : decode cL_cell 15 = .ok (.iload_n 1, 1) := by decide +kernel
theorem dL_cell_16 : decode cL_cell 16 = .ok (.iconst 3, 1) := by decide +kernel
theorem dL_cell_17 : decode cL_cell 17 = .ok (.iadd, 1) := by decide +kernel
theorem dL_cell_18 : decode cL_cell 18 = .ok (.imul, 1) := by decide +kernel
theorem dL_cell_19 : decode cL_cell 19 = .ok (.iload_n 1, 1) := by decide +kernel
theorem dL_cell_20 : decode cL_cell 20 = .ok (.bipush 11, 2) := by decide +kernel
theorem dL_cell_22 : decode cL_cell 22 = .ok (.iadd, 1) := by decide +kernel
theorem dL_cell_23 : decode cL_cell 23 = .ok (.imul, 1) := by decide +kernel
theorem dL_cell_24 : decode cL_cell 24 = .ok (.ireturn, 1) := by decide +kernel
theorem dL_low_0 : decode cL_low 0 = .ok (.iload_n 0, 1) := by decide +kernel
theorem dL_low_1 : decode cL_low 1 = .ok (.ldc 7, 2) := by decide +kernel
theorem dL_low_3 : decode cL_low 3 = .ok (.iand, 1) := by decide +kernel
theorem dL_low_4 : decode cL_low 4 = .ok (.iload_n 1, 1) := by decide +kernel
theorem dL_low_5 : decode cL_low 5 = .ok (.irem, 1) := by decide +kernel
theorem dL_low_6 : decode cL_low 6 = .ok (.ireturn, 1) := by decide +kernel
theorem dL_reads_0 : decode cL_reads 0 = .ok (.iconst 0, 1) := by decide +kernel
theorem dL_reads_1 : decode cL_reads 1 = .ok (.istore_n 3, 1) := by decide +kernel
theorem dL_reads_2 : decode cL_reads 2 = .ok (.iload_n 3, 1) := by decide +kernel
theorem dL_reads_3 : decode cL_reads 3 = .ok (.bipush 21, 2) := by decide +kernel
theorem dL_reads_5 : decode cL_reads 5 = .ok (.if_icmp .ge 37, 3) := by decide +kernel
theorem dL_reads_8 : decode cL_reads 8 = .ok (.aload_n 1, 1) := by decide +kernel
theorem dL_reads_9 : decode cL_reads 9 = .ok (.iload_n 3, 1) := by decide +kernel
theorem dL_reads_10 : decode cL_reads 10 = .ok (.aload_n 0, 1) := by decide +kernel
theorem dL_reads_11 : decode cL_reads 11 = .ok (.iconst 0, 1) := by decide +kernel
theorem dL_reads_12 : decode cL_reads 12 = .ok (.iload_n 3, 1) := by decide +kernel
theorem dL_reads_13 : decode cL_reads 13 = .ok (.iconst 3, 1) := by decide +kernel
theorem dL_reads_14 : decode cL_reads 14 = .ok (.idiv, 1) := by decide +kernel
theorem dL_reads_15 : decode cL_reads 15 = .ok (.iload_n 3, 1) := by decide +kernel
theorem dL_reads_16 : decode cL_reads 16 = .ok (.iconst 3, 1) := by decide +kernel
theorem dL_reads_17 : decode cL_reads 17 = .ok (.irem, 1) := by decide +kernel
theorem dL_reads_18 : decode cL_reads 18 = .ok (.invokevirtual 8, 3) := by decide +kernel
theorem dL_reads_21 : decode cL_reads 21 = .ok (.iastore, 1) := by decide +kernel
theorem dL_reads_22 : decode cL_reads 22 = .ok (.aload_n 2, 1) := by decide +kernel
theorem dL_reads_23 : decode cL_reads 23 = .ok (.iload_n 3, 1) := by decide +kernel
theorem dL_reads_24 : decode cL_reads 24 = .ok (.aload_n 0, 1) := by decide +kernel
theorem dL_reads_25 : decode cL_reads 25 = .ok (.iconst 0, 1) := by decide +kernel
theorem dL_reads_26 : decode cL_reads 26 = .ok (.iload_n 3, 1) := by decide +kernel
theorem dL_reads_27 : decode cL_reads 27 = .ok (.iconst 3, 1) := by decide +kernel
theorem dL_reads_28 : decode cL_reads 28 = .ok (.idiv, 1) := by decide +kernel
theorem dL_reads_29 : decode cL_reads 29 = .ok (.iload_n 3, 1) := by decide +kernel
theorem dL_reads_30 : decode cL_reads 30 = .ok (.iconst 3, 1) := by decide +kernel
theorem dL_reads_31 : decode cL_reads 31 = .ok (.irem, 1) := by decide +kernel
theorem dL_reads_32 : decode cL_reads 32 = .ok (.invokevirtual 14, 3) := by decide +kernel
theorem dL_reads_35 : decode cL_reads 35 = .ok (.iastore, 1) := by decide +kernel
theorem dL_reads_36 : decode cL_reads 36 = .ok (.iinc 3 1, 3) := by decide +kernel
theorem dL_reads_39 : decode cL_reads 39 = .ok (.goto (-37), 3) := by decide +kernel
theorem dL_reads_42 : decode cL_reads 42 = .ok (.return_, 1) := by decide +kernel
theorem dL_weekOf_0 : decode cL_weekOf 0 = .ok (.iconst 0, 1) := by decide +kernel
theorem dL_weekOf_1 : decode cL_weekOf 1 = .ok (.istore_n 3, 1) := by decide +kernel
theorem dL_weekOf_2 : decode cL_weekOf 2 = .ok (.iconst 0, 1) := by decide +kernel
theorem dL_weekOf_3 : decode cL_weekOf 3 = .ok (.istore 4, 2) := by decide +kernel
theorem dL_weekOf_5 : decode cL_weekOf 5 = .ok (.iconst 1, 1) := by decide +kernel
theorem dL_weekOf_6 : decode cL_weekOf 6 = .ok (.istore 5, 2) := by decide +kernel
theorem dL_weekOf_8 : decode cL_weekOf 8 = .ok (.iload_n 2, 1) := by decide +kernel
theorem dL_weekOf_9 : decode cL_weekOf 9 = .ok (.istore 6, 2) := by decide +kernel
theorem dL_weekOf_11 : decode cL_weekOf 11 = .ok (.iload 6, 2) := by decide +kernel
theorem dL_weekOf_13 : decode cL_weekOf 13 = .ok (.bipush 21, 2) := by decide +kernel
theorem dL_weekOf_15 : decode cL_weekOf 15 = .ok (.if_icmp .ge 162, 3) := by decide +kernel
theorem dL_weekOf_18 : decode cL_weekOf 18 = .ok (.aload_n 1, 1) := by decide +kernel
theorem dL_weekOf_19 : decode cL_weekOf 19 = .ok (.iload 6, 2) := by decide +kernel
theorem dL_weekOf_21 : decode cL_weekOf 21 = .ok (.iaload, 1) := by decide +kernel
theorem dL_weekOf_22 : decode cL_weekOf 22 = .ok (.aload_n 0, 1) := by decide +kernel
theorem dL_weekOf_23 : decode cL_weekOf 23 = .ok (.iload 6, 2) := by decide +kernel
theorem dL_weekOf_25 : decode cL_weekOf 25 = .ok (.iaload, 1) := by decide +kernel
theorem dL_weekOf_26 : decode cL_weekOf 26 = .ok (.bipush 15, 2) := by decide +kernel
theorem dL_weekOf_28 : decode cL_weekOf 28 = .ok (.idiv, 1) := by decide +kernel
theorem dL_weekOf_29 : decode cL_weekOf 29 = .ok (.isub, 1) := by decide +kernel
theorem dL_weekOf_30 : decode cL_weekOf 30 = .ok (.istore 7, 2) := by decide +kernel
theorem dL_weekOf_32 : decode cL_weekOf 32 = .ok (.iload 5, 2) := by decide +kernel
theorem dL_weekOf_34 : decode cL_weekOf 34 = .ok (.ifCond .eq 28, 3) := by decide +kernel
theorem dL_weekOf_37 : decode cL_weekOf 37 = .ok (.iload 7, 2) := by decide +kernel
theorem dL_weekOf_39 : decode cL_weekOf 39 = .ok (.ifCond .eq 19, 3) := by decide +kernel
theorem dL_weekOf_42 : decode cL_weekOf 42 = .ok (.iload 7, 2) := by decide +kernel
theorem dL_weekOf_44 : decode cL_weekOf 44 = .ok (.iconst 1, 1) := by decide +kernel
theorem dL_weekOf_45 : decode cL_weekOf 45 = .ok (.if_icmp .ne 17, 3) := by decide +kernel
theorem dL_weekOf_48 : decode cL_weekOf 48 = .ok (.aload_n 0, 1) := by decide +kernel
theorem dL_weekOf_49 : decode cL_weekOf 49 = .ok (.iload 6, 2) := by decide +kernel
theorem dL_weekOf_51 : decode cL_weekOf 51 = .ok (.iaload, 1) := by decide +kernel
theorem dL_weekOf_52 : decode cL_weekOf 52 = .ok (.bipush 15, 2) := by decide +kernel
theorem dL_weekOf_54 : decode cL_weekOf 54 = .ok (.irem, 1) := by decide +kernel
theorem dL_weekOf_55 : decode cL_weekOf 55 = .ok (.ifCond .le 7, 3) := by decide +kernel
theorem dL_weekOf_58 : decode cL_weekOf 58 = .ok (.iconst 1, 1) := by decide +kernel
theorem dL_weekOf_59 : decode cL_weekOf 59 = .ok (.goto 4, 3) := by decide +kernel
theorem dL_weekOf_62 : decode cL_weekOf 62 = .ok (.iconst 0, 1) := by decide +kernel
theorem dL_weekOf_63 : decode cL_weekOf 63 = .ok (.istore 5, 2) := by decide +kernel
theorem dL_weekOf_65 : decode cL_weekOf 65 = .ok (.iload_n 3, 1) := by decide +kernel
theorem dL_weekOf_66 : decode cL_weekOf 66 = .ok (.aload_n 0, 1) := by decide +kernel
theorem dL_weekOf_67 : decode cL_weekOf 67 = .ok (.iload 6, 2) := by decide +kernel
theorem dL_weekOf_69 : decode cL_weekOf 69 = .ok (.iaload, 1) := by decide +kernel
theorem dL_weekOf_70 : decode cL_weekOf 70 = .ok (.iadd, 1) := by decide +kernel
theorem dL_weekOf_71 : decode cL_weekOf 71 = .ok (.istore_n 3, 1) := by decide +kernel
theorem dL_weekOf_72 : decode cL_weekOf 72 = .ok (.iload 4, 2) := by decide +kernel
theorem dL_weekOf_74 : decode cL_weekOf 74 = .ok (.aload_n 1, 1) := by decide +kernel
theorem dL_weekOf_75 : decode cL_weekOf 75 = .ok (.iload 6, 2) := by decide +kernel
theorem dL_weekOf_77 : decode cL_weekOf 77 = .ok (.iaload, 1) := by decide +kernel
theorem dL_weekOf_78 : decode cL_weekOf 78 = .ok (.iadd, 1) := by decide +kernel
theorem dL_weekOf_79 : decode cL_weekOf 79 = .ok (.istore 4, 2) := by decide +kernel
theorem dL_weekOf_81 : decode cL_weekOf 81 = .ok (.iload_n 2, 1) := by decide +kernel
theorem dL_weekOf_82 : decode cL_weekOf 82 = .ok (.istore 8, 2) := by decide +kernel
theorem dL_weekOf_84 : decode cL_weekOf 84 = .ok (.iload 8, 2) := by decide +kernel
theorem dL_weekOf_86 : decode cL_weekOf 86 = .ok (.iload 6, 2) := by decide +kernel
theorem dL_weekOf_88 : decode cL_weekOf 88 = .ok (.if_icmp .ge 83, 3) := by decide +kernel
theorem dL_weekOf_91 : decode cL_weekOf 91 = .ok (.aload_n 1, 1) := by decide +kernel
theorem dL_weekOf_92 : decode cL_weekOf 92 = .ok (.iload 8, 2) := by decide +kernel
theorem dL_weekOf_94 : decode cL_weekOf 94 = .ok (.iaload, 1) := by decide +kernel
theorem dL_weekOf_95 : decode cL_weekOf 95 = .ok (.aload_n 0, 1) := by decide +kernel
theorem dL_weekOf_96 : decode cL_weekOf 96 = .ok (.iload 8, 2) := by decide +kernel
theorem dL_weekOf_98 : decode cL_weekOf 98 = .ok (.iaload, 1) := by decide +kernel
theorem dL_weekOf_99 : decode cL_weekOf 99 = .ok (.bipush 15, 2) := by decide +kernel
theorem dL_weekOf_101 : decode cL_weekOf 101 = .ok (.idiv, 1) := by decide +kernel
theorem dL_weekOf_102 : decode cL_weekOf 102 = .ok (.isub, 1) := by decide +kernel
theorem dL_weekOf_103 : decode cL_weekOf 103 = .ok (.istore 9, 2) := by decide +kernel
theorem dL_weekOf_105 : decode cL_weekOf 105 = .ok (.iload 5, 2) := by decide +kernel
theorem dL_weekOf_107 : decode cL_weekOf 107 = .ok (.ifCond .eq 55, 3) := by decide +kernel
theorem dL_weekOf_110 : decode cL_weekOf 110 = .ok (.iload 7, 2) := by decide +kernel
theorem dL_weekOf_112 : decode cL_weekOf 112 = .ok (.iload 9, 2) := by decide +kernel
theorem dL_weekOf_114 : decode cL_weekOf 114 = .ok (.if_icmp .le 20, 3) := by decide +kernel
theorem dL_weekOf_117 : decode cL_weekOf 117 = .ok (.aload_n 0, 1) := by decide +kernel
theorem dL_weekOf_118 : decode cL_weekOf 118 = .ok (.iload 6, 2) := by decide +kernel
theorem dL_weekOf_120 : decode cL_weekOf 120 = .ok (.iaload, 1) := by decide +kernel
theorem dL_weekOf_121 : decode cL_weekOf 121 = .ok (.bipush 15, 2) := by decide +kernel
theorem dL_weekOf_123 : decode cL_weekOf 123 = .ok (.irem, 1) := by decide +kernel
theorem dL_weekOf_124 : decode cL_weekOf 124 = .ok (.aload_n 0, 1) := by decide +kernel
theorem dL_weekOf_125 : decode cL_weekOf 125 = .ok (.iload 8, 2) := by decide +kernel
theorem dL_weekOf_127 : decode cL_weekOf 127 = .ok (.iaload, 1) := by decide +kernel
theorem dL_weekOf_128 : decode cL_weekOf 128 = .ok (.bipush 15, 2) := by decide +kernel
theorem dL_weekOf_130 : decode cL_weekOf 130 = .ok (.irem, 1) := by decide +kernel
theorem dL_weekOf_131 : decode cL_weekOf 131 = .ok (.if_icmp .le 31, 3) := by decide +kernel
theorem dL_weekOf_134 : decode cL_weekOf 134 = .ok (.iload 7, 2) := by decide +kernel
theorem dL_weekOf_136 : decode cL_weekOf 136 = .ok (.iload 9, 2) := by decide +kernel
theorem dL_weekOf_138 : decode cL_weekOf 138 = .ok (.if_icmp .ge 20, 3) := by decide +kernel
theorem dL_weekOf_141 : decode cL_weekOf 141 = .ok (.aload_n 0, 1) := by decide +kernel
theorem dL_weekOf_142 : decode cL_weekOf 142 = .ok (.iload 6, 2) := by decide +kernel
theorem dL_weekOf_144 : decode cL_weekOf 144 = .ok (.iaload, 1) := by decide +kernel
theorem dL_weekOf_145 : decode cL_weekOf 145 = .ok (.bipush 15, 2) := by decide +kernel
theorem dL_weekOf_147 : decode cL_weekOf 147 = .ok (.irem, 1) := by decide +kernel
theorem dL_weekOf_148 : decode cL_weekOf 148 = .ok (.aload_n 0, 1) := by decide +kernel
theorem dL_weekOf_149 : decode cL_weekOf 149 = .ok (.iload 8, 2) := by decide +kernel
theorem dL_weekOf_151 : decode cL_weekOf 151 = .ok (.iaload, 1) := by decide +kernel
theorem dL_weekOf_152 : decode cL_weekOf 152 = .ok (.bipush 15, 2) := by decide +kernel
theorem dL_weekOf_154 : decode cL_weekOf 154 = .ok (.irem, 1) := by decide +kernel
theorem dL_weekOf_155 : decode cL_weekOf 155 = .ok (.if_icmp .gt 7, 3) := by decide +kernel
theorem dL_weekOf_158 : decode cL_weekOf 158 = .ok (.iconst 1, 1) := by decide +kernel
theorem dL_weekOf_159 : decode cL_weekOf 159 = .ok (.goto 4, 3) := by decide +kernel
theorem dL_weekOf_162 : decode cL_weekOf 162 = .ok (.iconst 0, 1) := by decide +kernel
theorem dL_weekOf_163 : decode cL_weekOf 163 = .ok (.istore 5, 2) := by decide +kernel
theorem dL_weekOf_165 : decode cL_weekOf 165 = .ok (.iinc 8 3, 3) := by decide +kernel
theorem dL_weekOf_168 : decode cL_weekOf 168 = .ok (.goto (-84), 3) := by decide +kernel
theorem dL_weekOf_171 : decode cL_weekOf 171 = .ok (.iinc 6 3, 3) := by decide +kernel
theorem dL_weekOf_174 : decode cL_weekOf 174 = .ok (.goto (-163), 3) := by decide +kernel
theorem dL_weekOf_177 : decode cL_weekOf 177 = .ok (.bipush 15, 2) := by decide +kernel
theorem dL_weekOf_179 : decode cL_weekOf 179 = .ok (.iload 4, 2) := by decide +kernel
theorem dL_weekOf_181 : decode cL_weekOf 181 = .ok (.imul, 1) := by decide +kernel
theorem dL_weekOf_182 : decode cL_weekOf 182 = .ok (.iload_n 3, 1) := by decide +kernel
theorem dL_weekOf_183 : decode cL_weekOf 183 = .ok (.isub, 1) := by decide +kernel
theorem dL_weekOf_184 : decode cL_weekOf 184 = .ok (.istore 6, 2) := by decide +kernel
theorem dL_weekOf_186 : decode cL_weekOf 186 = .ok (.iload 5, 2) := by decide +kernel
theorem dL_weekOf_188 : decode cL_weekOf 188 = .ok (.ifCond .eq 22, 3) := by decide +kernel
theorem dL_weekOf_191 : decode cL_weekOf 191 = .ok (.iload 6, 2) := by decide +kernel
theorem dL_weekOf_193 : decode cL_weekOf 193 = .ok (.bipush 7, 2) := by decide +kernel
theorem dL_weekOf_195 : decode cL_weekOf 195 = .ok (.if_icmp .gt 15, 3) := by decide +kernel
theorem dL_weekOf_198 : decode cL_weekOf 198 = .ok (.iload 6, 2) := by decide +kernel
theorem dL_weekOf_200 : decode cL_weekOf 200 = .ok (.bipush (-7), 2) := by decide +kernel
theorem dL_weekOf_202 : decode cL_weekOf 202 = .ok (.if_icmp .lt 8, 3) := by decide +kernel
theorem dL_weekOf_205 : decode cL_weekOf 205 = .ok (.iload 4, 2) := by decide +kernel
theorem dL_weekOf_207 : decode cL_weekOf 207 = .ok (.goto 4, 3) := by decide +kernel
theorem dL_weekOf_210 : decode cL_weekOf 210 = .ok (.iconst (-1), 1) := by decide +kernel
theorem dL_weekOf_211 : decode cL_weekOf 211 = .ok (.ireturn, 1) := by decide +kernel
theorem dL_isPaid_0 : decode cL_isPaid 0 = .ok (.aload_n 0, 1) := by decide +kernel
theorem dL_isPaid_1 : decode cL_isPaid 1 = .ok (.aload_n 1, 1) := by decide +kernel
theorem dL_isPaid_2 : decode cL_isPaid 2 = .ok (.aload_n 2, 1) := by decide +kernel
theorem dL_isPaid_3 : decode cL_isPaid 3 = .ok (.invokestatic 17, 3) := by decide +kernel
theorem dL_isPaid_6 : decode cL_isPaid 6 = .ok (.aload_n 1, 1) := by decide +kernel
theorem dL_isPaid_7 : decode cL_isPaid 7 = .ok (.aload_n 2, 1) := by decide +kernel
theorem dL_isPaid_8 : decode cL_isPaid 8 = .ok (.iconst 0, 1) := by decide +kernel
theorem dL_isPaid_9 : decode cL_isPaid 9 = .ok (.invokestatic 23, 3) := by decide +kernel
theorem dL_isPaid_12 : decode cL_isPaid 12 = .ok (.istore 5, 2) := by decide +kernel
theorem dL_isPaid_14 : decode cL_isPaid 14 = .ok (.aload_n 1, 1) := by decide +kernel
theorem dL_isPaid_15 : decode cL_isPaid 15 = .ok (.aload_n 2, 1) := by decide +kernel
theorem dL_isPaid_16 : decode cL_isPaid 16 = .ok (.iconst 1, 1) := by decide +kernel
theorem dL_isPaid_17 : decode cL_isPaid 17 = .ok (.invokestatic 23, 3) := by decide +kernel
theorem dL_isPaid_20 : decode cL_isPaid 20 = .ok (.istore 6, 2) := by decide +kernel
theorem dL_isPaid_22 : decode cL_isPaid 22 = .ok (.aload_n 1, 1) := by decide +kernel
theorem dL_isPaid_23 : decode cL_isPaid 23 = .ok (.aload_n 2, 1) := by decide +kernel
theorem dL_isPaid_24 : decode cL_isPaid 24 = .ok (.iconst 2, 1) := by decide +kernel
theorem dL_isPaid_25 : decode cL_isPaid 25 = .ok (.invokestatic 23, 3) := by decide +kernel
theorem dL_isPaid_28 : decode cL_isPaid 28 = .ok (.istore 7, 2) := by decide +kernel
theorem dL_isPaid_30 : decode cL_isPaid 30 = .ok (.iload_n 3, 1) := by decide +kernel
theorem dL_isPaid_31 : decode cL_isPaid 31 = .ok (.iconst 2, 1) := by decide +kernel
theorem dL_isPaid_32 : decode cL_isPaid 32 = .ok (.iload 5, 2) := by decide +kernel
theorem dL_isPaid_34 : decode cL_isPaid 34 = .ok (.imul, 1) := by decide +kernel
theorem dL_isPaid_35 : decode cL_isPaid 35 = .ok (.iconst 3, 1) := by decide +kernel
theorem dL_isPaid_36 : decode cL_isPaid 36 = .ok (.iload 6, 2) := by decide +kernel
theorem dL_isPaid_38 : decode cL_isPaid 38 = .ok (.imul, 1) := by decide +kernel
theorem dL_isPaid_39 : decode cL_isPaid 39 = .ok (.iadd, 1) := by decide +kernel
theorem dL_isPaid_40 : decode cL_isPaid 40 = .ok (.iconst 4, 1) := by decide +kernel
theorem dL_isPaid_41 : decode cL_isPaid 41 = .ok (.iload 7, 2) := by decide +kernel
theorem dL_isPaid_43 : decode cL_isPaid 43 = .ok (.imul, 1) := by decide +kernel
theorem dL_isPaid_44 : decode cL_isPaid 44 = .ok (.iadd, 1) := by decide +kernel
theorem dL_isPaid_45 : decode cL_isPaid 45 = .ok (.imul, 1) := by decide +kernel
theorem dL_isPaid_46 : decode cL_isPaid 46 = .ok (.iconst 4, 1) := by decide +kernel
theorem dL_isPaid_47 : decode cL_isPaid 47 = .ok (.iadd, 1) := by decide +kernel
theorem dL_isPaid_48 : decode cL_isPaid 48 = .ok (.bipush 8, 2) := by decide +kernel
theorem dL_isPaid_50 : decode cL_isPaid 50 = .ok (.idiv, 1) := by decide +kernel
theorem dL_isPaid_51 : decode cL_isPaid 51 = .ok (.istore 8, 2) := by decide +kernel
theorem dL_isPaid_53 : decode cL_isPaid 53 = .ok (.aload_n 0, 1) := by decide +kernel
theorem dL_isPaid_54 : decode cL_isPaid 54 = .ok (.iconst 0, 1) := by decide +kernel
theorem dL_isPaid_55 : decode cL_isPaid 55 = .ok (.invokevirtual 27, 3) := by decide +kernel
theorem dL_isPaid_58 : decode cL_isPaid 58 = .ok (.istore 9, 2) := by decide +kernel
theorem dL_isPaid_60 : decode cL_isPaid 60 = .ok (.iload 5, 2) := by decide +kernel
theorem dL_isPaid_62 : decode cL_isPaid 62 = .ok (.ifCond .lt 40, 3) := by decide +kernel
theorem dL_isPaid_65 : decode cL_isPaid 65 = .ok (.iload 6, 2) := by decide +kernel
theorem dL_isPaid_67 : decode cL_isPaid 67 = .ok (.ifCond .lt 35, 3) := by decide +kernel
theorem dL_isPaid_70 : decode cL_isPaid 70 = .ok (.iload 7, 2) := by decide +kernel
theorem dL_isPaid_72 : decode cL_isPaid 72 = .ok (.ifCond .lt 30, 3) := by decide +kernel
theorem dL_isPaid_75 : decode cL_isPaid 75 = .ok (.aload_n 0, 1) := by decide +kernel
theorem dL_isPaid_76 : decode cL_isPaid 76 = .ok (.iconst 0, 1) := by decide +kernel
theorem dL_isPaid_77 : decode cL_isPaid 77 = .ok (.invokevirtual 31, 3) := by decide +kernel
theorem dL_isPaid_80 : decode cL_isPaid 80 = .ok (.iload 8, 2) := by decide +kernel
theorem dL_isPaid_82 : decode cL_isPaid 82 = .ok (.iload 9, 2) := by decide +kernel
theorem dL_isPaid_84 : decode cL_isPaid 84 = .ok (.iadd, 1) := by decide +kernel
theorem dL_isPaid_85 : decode cL_isPaid 85 = .ok (.if_icmp .ne 17, 3) := by decide +kernel
theorem dL_isPaid_88 : decode cL_isPaid 88 = .ok (.iload 4, 2) := by decide +kernel
theorem dL_isPaid_90 : decode cL_isPaid 90 = .ok (.ifCond .ne 8, 3) := by decide +kernel
theorem dL_isPaid_93 : decode cL_isPaid 93 = .ok (.iload 9, 2) := by decide +kernel
theorem dL_isPaid_95 : decode cL_isPaid 95 = .ok (.ifCond .ne 7, 3) := by decide +kernel
theorem dL_isPaid_98 : decode cL_isPaid 98 = .ok (.iconst 1, 1) := by decide +kernel
theorem dL_isPaid_99 : decode cL_isPaid 99 = .ok (.goto 4, 3) := by decide +kernel
theorem dL_isPaid_102 : decode cL_isPaid 102 = .ok (.iconst 0, 1) := by decide +kernel
theorem dL_isPaid_103 : decode cL_isPaid 103 = .ok (.istore 10, 2) := by decide +kernel
theorem dL_isPaid_105 : decode cL_isPaid 105 = .ok (.iconst 0, 1) := by decide +kernel
theorem dL_isPaid_106 : decode cL_isPaid 106 = .ok (.istore 11, 2) := by decide +kernel
theorem dL_isPaid_108 : decode cL_isPaid 108 = .ok (.iload 11, 2) := by decide +kernel
theorem dL_isPaid_110 : decode cL_isPaid 110 = .ok (.bipush 7, 2) := by decide +kernel
theorem dL_isPaid_112 : decode cL_isPaid 112 = .ok (.if_icmp .ge 91, 3) := by decide +kernel
theorem dL_isPaid_115 : decode cL_isPaid 115 = .ok (.aload_n 0, 1) := by decide +kernel
theorem dL_isPaid_116 : decode cL_isPaid 116 = .ok (.iconst 0, 1) := by decide +kernel
theorem dL_isPaid_117 : decode cL_isPaid 117 = .ok (.iload 11, 2) := by decide +kernel
theorem dL_isPaid_119 : decode cL_isPaid 119 = .ok (.invokevirtual 34, 3) := by decide +kernel
theorem dL_isPaid_122 : decode cL_isPaid 122 = .ok (.istore 12, 2) := by decide +kernel
theorem dL_isPaid_124 : decode cL_isPaid 124 = .ok (.aload_n 1, 1) := by decide +kernel
theorem dL_isPaid_125 : decode cL_isPaid 125 = .ok (.iconst 3, 1) := by decide +kernel
theorem dL_isPaid_126 : decode cL_isPaid 126 = .ok (.iload 11, 2) := by decide +kernel
theorem dL_isPaid_128 : decode cL_isPaid 128 = .ok (.imul, 1) := by decide +kernel
theorem dL_isPaid_129 : decode cL_isPaid 129 = .ok (.iaload, 1) := by decide +kernel
theorem dL_isPaid_130 : decode cL_isPaid 130 = .ok (.aload_n 1, 1) := by decide +kernel
theorem dL_isPaid_131 : decode cL_isPaid 131 = .ok (.iconst 3, 1) := by decide +kernel
theorem dL_isPaid_132 : decode cL_isPaid 132 = .ok (.iload 11, 2) := by decide +kernel
theorem dL_isPaid_134 : decode cL_isPaid 134 = .ok (.imul, 1) := by decide +kernel
theorem dL_isPaid_135 : decode cL_isPaid 135 = .ok (.iconst 1, 1) := by decide +kernel
theorem dL_isPaid_136 : decode cL_isPaid 136 = .ok (.iadd, 1) := by decide +kernel
theorem dL_isPaid_137 : decode cL_isPaid 137 = .ok (.iaload, 1) := by decide +kernel
theorem dL_isPaid_138 : decode cL_isPaid 138 = .ok (.iadd, 1) := by decide +kernel
theorem dL_isPaid_139 : decode cL_isPaid 139 = .ok (.istore 13, 2) := by decide +kernel
theorem dL_isPaid_141 : decode cL_isPaid 141 = .ok (.iload 10, 2) := by decide +kernel
theorem dL_isPaid_143 : decode cL_isPaid 143 = .ok (.ifCond .eq 51, 3) := by decide +kernel
theorem dL_isPaid_146 : decode cL_isPaid 146 = .ok (.iload 13, 2) := by decide +kernel
theorem dL_isPaid_148 : decode cL_isPaid 148 = .ok (.aload_n 1, 1) := by decide +kernel
theorem dL_isPaid_149 : decode cL_isPaid 149 = .ok (.iconst 3, 1) := by decide +kernel
theorem dL_isPaid_150 : decode cL_isPaid 150 = .ok (.iload 11, 2) := by decide +kernel
theorem dL_isPaid_152 : decode cL_isPaid 152 = .ok (.imul, 1) := by decide +kernel
theorem dL_isPaid_153 : decode cL_isPaid 153 = .ok (.iconst 2, 1) := by decide +kernel
theorem dL_isPaid_154 : decode cL_isPaid 154 = .ok (.iadd, 1) := by decide +kernel
theorem dL_isPaid_155 : decode cL_isPaid 155 = .ok (.iaload, 1) := by decide +kernel
theorem dL_isPaid_156 : decode cL_isPaid 156 = .ok (.iadd, 1) := by decide +kernel
theorem dL_isPaid_157 : decode cL_isPaid 157 = .ok (.iload 12, 2) := by decide +kernel
theorem dL_isPaid_159 : decode cL_isPaid 159 = .ok (.if_icmp .gt 35, 3) := by decide +kernel
theorem dL_isPaid_162 : decode cL_isPaid 162 = .ok (.iload 12, 2) := by decide +kernel
theorem dL_isPaid_164 : decode cL_isPaid 164 = .ok (.sipush 1440, 3) := by decide +kernel
theorem dL_isPaid_167 : decode cL_isPaid 167 = .ok (.if_icmp .gt 27, 3) := by decide +kernel
theorem dL_isPaid_170 : decode cL_isPaid 170 = .ok (.aload_n 1, 1) := by decide +kernel
theorem dL_isPaid_171 : decode cL_isPaid 171 = .ok (.iconst 3, 1) := by decide +kernel
theorem dL_isPaid_172 : decode cL_isPaid 172 = .ok (.iload 11, 2) := by decide +kernel
theorem dL_isPaid_174 : decode cL_isPaid 174 = .ok (.imul, 1) := by decide +kernel
theorem dL_isPaid_175 : decode cL_isPaid 175 = .ok (.iaload, 1) := by decide +kernel
theorem dL_isPaid_176 : decode cL_isPaid 176 = .ok (.sipush 480, 3) := by decide +kernel
theorem dL_isPaid_179 : decode cL_isPaid 179 = .ok (.if_icmp .gt 15, 3) := by decide +kernel
theorem dL_isPaid_182 : decode cL_isPaid 182 = .ok (.iload 13, 2) := by decide +kernel
theorem dL_isPaid_184 : decode cL_isPaid 184 = .ok (.sipush 720, 3) := by decide +kernel
theorem dL_isPaid_187 : decode cL_isPaid 187 = .ok (.if_icmp .gt 7, 3) := by decide +kernel
theorem dL_isPaid_190 : decode cL_isPaid 190 = .ok (.iconst 1, 1) := by decide +kernel
theorem dL_isPaid_191 : decode cL_isPaid 191 = .ok (.goto 4, 3) := by decide +kernel
theorem dL_isPaid_194 : decode cL_isPaid 194 = .ok (.iconst 0, 1) := by decide +kernel
theorem dL_isPaid_195 : decode cL_isPaid 195 = .ok (.istore 10, 2) := by decide +kernel
theorem dL_isPaid_197 : decode cL_isPaid 197 = .ok (.iinc 11 1, 3) := by decide +kernel
theorem dL_isPaid_200 : decode cL_isPaid 200 = .ok (.goto (-92), 3) := by decide +kernel
theorem dL_isPaid_203 : decode cL_isPaid 203 = .ok (.iload 10, 2) := by decide +kernel
theorem dL_isPaid_205 : decode cL_isPaid 205 = .ok (.ireturn, 1) := by decide +kernel
theorem dL_isEmpty_0 : decode cL_isEmpty 0 = .ok (.aload_n 0, 1) := by decide +kernel
theorem dL_isEmpty_1 : decode cL_isEmpty 1 = .ok (.iload_n 1, 1) := by decide +kernel
theorem dL_isEmpty_2 : decode cL_isEmpty 2 = .ok (.invokevirtual 31, 3) := by decide +kernel
theorem dL_isEmpty_5 : decode cL_isEmpty 5 = .ok (.ifCond .ne 47, 3) := by decide +kernel
theorem dL_isEmpty_8 : decode cL_isEmpty 8 = .ok (.aload_n 0, 1) := by decide +kernel
theorem dL_isEmpty_9 : decode cL_isEmpty 9 = .ok (.iload_n 1, 1) := by decide +kernel
theorem dL_isEmpty_10 : decode cL_isEmpty 10 = .ok (.invokevirtual 38, 3) := by decide +kernel
theorem dL_isEmpty_13 : decode cL_isEmpty 13 = .ok (.ifCond .ne 39, 3) := by decide +kernel
theorem dL_isEmpty_16 : decode cL_isEmpty 16 = .ok (.aload_n 0, 1) := by decide +kernel
theorem dL_isEmpty_17 : decode cL_isEmpty 17 = .ok (.iload_n 1, 1) := by decide +kernel
theorem dL_isEmpty_18 : decode cL_isEmpty 18 = .ok (.invokevirtual 41, 3) := by decide +kernel
theorem dL_isEmpty_21 : decode cL_isEmpty 21 = .ok (.ifCond .ne 31, 3) := by decide +kernel
theorem dL_isEmpty_24 : decode cL_isEmpty 24 = .ok (.aload_n 0, 1) := by decide +kernel
theorem dL_isEmpty_25 : decode cL_isEmpty 25 = .ok (.iload_n 1, 1) := by decide +kernel
theorem dL_isEmpty_26 : decode cL_isEmpty 26 = .ok (.invokevirtual 44, 3) := by decide +kernel
theorem dL_isEmpty_29 : decode cL_isEmpty 29 = .ok (.ifCond .ne 23, 3) := by decide +kernel
theorem dL_isEmpty_32 : decode cL_isEmpty 32 = .ok (.aload_n 0, 1) := by decide +kernel
theorem dL_isEmpty_33 : decode cL_isEmpty 33 = .ok (.iload_n 1, 1) := by decide +kernel
theorem dL_isEmpty_34 : decode cL_isEmpty 34 = .ok (.invokevirtual 47, 3) := by decide +kernel
theorem dL_isEmpty_37 : decode cL_isEmpty 37 = .ok (.ifCond .ne 15, 3) := by decide +kernel
theorem dL_isEmpty_40 : decode cL_isEmpty 40 = .ok (.aload_n 0, 1) := by decide +kernel
theorem dL_isEmpty_41 : decode cL_isEmpty 41 = .ok (.iload_n 1, 1) := by decide +kernel
theorem dL_isEmpty_42 : decode cL_isEmpty 42 = .ok (.invokevirtual 50, 3) := by decide +kernel
theorem dL_isEmpty_45 : decode cL_isEmpty 45 = .ok (.ifCond .ne 7, 3) := by decide +kernel
theorem dL_isEmpty_48 : decode cL_isEmpty 48 = .ok (.iconst 1, 1) := by decide +kernel
theorem dL_isEmpty_49 : decode cL_isEmpty 49 = .ok (.goto 4, 3) := by decide +kernel
theorem dL_isEmpty_52 : decode cL_isEmpty 52 = .ok (.iconst 0, 1) := by decide +kernel
theorem dL_isEmpty_53 : decode cL_isEmpty 53 = .ok (.ireturn, 1) := by decide +kernel
end
section
theorem dL_law_0 : decode cL_law 0 = .ok (.new 9, 3) := by decide +kernel
theorem dL_law_3 : decode cL_law 3 = .ok (.dup, 1) := by decide +kernel
theorem dL_law_4 : decode cL_law 4 = .ok (.invokespecial 53, 3) := by decide +kernel
theorem dL_law_7 : decode cL_law 7 = .ok (.astore_n 1, 1) := by decide +kernel
theorem dL_law_8 : decode cL_law 8 = .ok (.iconst 1, 1) := by decide +kernel
theorem dL_law_9 : decode cL_law 9 = .ok (.aload_n 0, 1) := by decide +kernel
theorem dL_law_10 : decode cL_law 10 = .ok (.iconst 0, 1) := by decide +kernel
theorem dL_law_11 : decode cL_law 11 = .ok (.invokestatic 54, 3) := by decide +kernel
theorem dL_law_14 : decode cL_law 14 = .ok (.sipush 9000, 3) := by decide +kernel
theorem dL_law_17 : decode cL_law 17 = .ok (.invokestatic 58, 3) := by decide +kernel
theorem dL_law_20 : decode cL_law 20 = .ok (.iadd, 1) := by decide +kernel
theorem dL_law_21 : decode cL_law 21 = .ok (.istore_n 2, 1) := by decide +kernel
theorem dL_law_22 : decode cL_law 22 = .ok (.aload_n 1, 1) := by decide +kernel
theorem dL_law_23 : decode cL_law 23 = .ok (.iload_n 2, 1) := by decide +kernel
theorem dL_law_24 : decode cL_law 24 = .ok (.invokevirtual 61, 3) := by decide +kernel
theorem dL_law_27 : decode cL_law 27 = .ok (.pop, 1) := by decide +kernel
theorem dL_law_28 : decode cL_law 28 = .ok (.aload_n 0, 1) := by decide +kernel
theorem dL_law_29 : decode cL_law 29 = .ok (.iconst 1, 1) := by decide +kernel
theorem dL_law_30 : decode cL_law 30 = .ok (.invokestatic 54, 3) := by decide +kernel
theorem dL_law_33 : decode cL_law 33 = .ok (.iconst 4, 1) := by decide +kernel
theorem dL_law_34 : decode cL_law 34 = .ok (.invokestatic 58, 3) := by decide +kernel
theorem dL_law_37 : decode cL_law 37 = .ok (.istore_n 3, 1) := by decide +kernel
theorem dL_law_38 : decode cL_law 38 = .ok (.iconst 0, 1) := by decide +kernel
theorem dL_law_39 : decode cL_law 39 = .ok (.istore 4, 2) := by decide +kernel
theorem dL_law_41 : decode cL_law 41 = .ok (.iload 4, 2) := by decide +kernel
theorem dL_law_43 : decode cL_law 43 = .ok (.iload_n 3, 1) := by decide +kernel
theorem dL_law_44 : decode cL_law 44 = .ok (.if_icmp .ge 82, 3) := by decide +kernel
theorem dL_law_47 : decode cL_law 47 = .ok (.aload_n 1, 1) := by decide +kernel
theorem dL_law_48 : decode cL_law 48 = .ok (.iconst 1, 1) := by decide +kernel
theorem dL_law_49 : decode cL_law 49 = .ok (.aload_n 0, 1) := by decide +kernel
theorem dL_law_50 : decode cL_law 50 = .ok (.iconst 2, 1) := by decide +kernel
theorem dL_law_51 : decode cL_law 51 = .ok (.iload 4, 2) := by decide +kernel
theorem dL_law_53 : decode cL_law 53 = .ok (.iadd, 1) := by decide +kernel
theorem dL_law_54 : decode cL_law 54 = .ok (.invokestatic 54, 3) := by decide +kernel
theorem dL_law_57 : decode cL_law 57 = .ok (.bipush 127, 2) := by decide +kernel
theorem dL_law_59 : decode cL_law 59 = .ok (.invokestatic 58, 3) := by decide +kernel
theorem dL_law_62 : decode cL_law 62 = .ok (.iadd, 1) := by decide +kernel
theorem dL_law_63 : decode cL_law 63 = .ok (.aload_n 0, 1) := by decide +kernel
theorem dL_law_64 : decode cL_law 64 = .ok (.iconst 2, 1) := by decide +kernel
theorem dL_law_65 : decode cL_law 65 = .ok (.iload 4, 2) := by decide +kernel
theorem dL_law_67 : decode cL_law 67 = .ok (.iadd, 1) := by decide +kernel
theorem dL_law_68 : decode cL_law 68 = .ok (.invokestatic 54, 3) := by decide +kernel
theorem dL_law_71 : decode cL_law 71 = .ok (.bipush 7, 2) := by decide +kernel
theorem dL_law_73 : decode cL_law 73 = .ok (.ishr, 1) := by decide +kernel
theorem dL_law_74 : decode cL_law 74 = .ok (.sipush 1440, 3) := by decide +kernel
theorem dL_law_77 : decode cL_law 77 = .ok (.invokestatic 58, 3) := by decide +kernel
theorem dL_law_80 : decode cL_law 80 = .ok (.aload_n 0, 1) := by decide +kernel
theorem dL_law_81 : decode cL_law 81 = .ok (.iconst 2, 1) := by decide +kernel
theorem dL_law_82 : decode cL_law 82 = .ok (.iload 4, 2) := by decide +kernel
theorem dL_law_84 : decode cL_law 84 = .ok (.iadd, 1) := by decide +kernel
theorem dL_law_85 : decode cL_law 85 = .ok (.invokestatic 54, 3) := by decide +kernel
theorem dL_law_88 : decode cL_law 88 = .ok (.bipush 12, 2) := by decide +kernel
theorem dL_law_90 : decode cL_law 90 = .ok (.ishr, 1) := by decide +kernel
theorem dL_law_91 : decode cL_law 91 = .ok (.sipush 1440, 3) := by decide +kernel
theorem dL_law_94 : decode cL_law 94 = .ok (.invokestatic 58, 3) := by decide +kernel
theorem dL_law_97 : decode cL_law 97 = .ok (.iconst 1, 1) := by decide +kernel
theorem dL_law_98 : decode cL_law 98 = .ok (.aload_n 0, 1) := by decide +kernel
theorem dL_law_99 : decode cL_law 99 = .ok (.iconst 2, 1) := by decide +kernel
theorem dL_law_100 : decode cL_law 100 = .ok (.iload 4, 2) := by decide +kernel
theorem dL_law_102 : decode cL_law 102 = .ok (.iadd, 1) := by decide +kernel
theorem dL_law_103 : decode cL_law 103 = .ok (.invokestatic 54, 3) := by decide +kernel
theorem dL_law_106 : decode cL_law 106 = .ok (.bipush 9, 2) := by decide +kernel
theorem dL_law_108 : decode cL_law 108 = .ok (.ishr, 1) := by decide +kernel
theorem dL_law_109 : decode cL_law 109 = .ok (.sipush 900, 3) := by decide +kernel
theorem dL_law_112 : decode cL_law 112 = .ok (.invokestatic 58, 3) := by decide +kernel
theorem dL_law_115 : decode cL_law 115 = .ok (.iadd, 1) := by decide +kernel
theorem dL_law_116 : decode cL_law 116 = .ok (.invokevirtual 64, 3) := by decide +kernel
theorem dL_law_119 : decode cL_law 119 = .ok (.pop, 1) := by decide +kernel
theorem dL_law_120 : decode cL_law 120 = .ok (.iinc 4 1, 3) := by decide +kernel
theorem dL_law_123 : decode cL_law 123 = .ok (.goto (-82), 3) := by decide +kernel
theorem dL_law_126 : decode cL_law 126 = .ok (.bipush 21, 2) := by decide +kernel
theorem dL_law_128 : decode cL_law 128 = .ok (.newarray .int, 2) := by decide +kernel
theorem dL_law_130 : decode cL_law 130 = .ok (.astore 4, 2) := by decide +kernel
theorem dL_law_132 : decode cL_law 132 = .ok (.bipush 21, 2) := by decide +kernel
theorem dL_law_134 : decode cL_law 134 = .ok (.newarray .int, 2) := by decide +kernel
theorem dL_law_136 : decode cL_law 136 = .ok (.astore 5, 2) := by decide +kernel
theorem dL_law_138 : decode cL_law 138 = .ok (.lconst 0, 1) := by decide +kernel
theorem dL_law_139 : decode cL_law 139 = .ok (.lstore 6, 2) := by decide +kernel
theorem dL_law_141 : decode cL_law 141 = .ok (.iconst 0, 1) := by decide +kernel
theorem dL_law_142 : decode cL_law 142 = .ok (.istore 8, 2) := by decide +kernel
theorem dL_law_144 : decode cL_law 144 = .ok (.iconst 0, 1) := by decide +kernel
theorem dL_law_145 : decode cL_law 145 = .ok (.istore 9, 2) := by decide +kernel
theorem dL_law_147 : decode cL_law 147 = .ok (.iload 9, 2) := by decide +kernel
theorem dL_law_149 : decode cL_law 149 = .ok (.iconst 4, 1) := by decide +kernel
theorem dL_law_150 : decode cL_law 150 = .ok (.if_icmp .ge 312, 3) := by decide +kernel
theorem dL_law_153 : decode cL_law 153 = .ok (.iconst 1, 1) := by decide +kernel
theorem dL_law_154 : decode cL_law 154 = .ok (.aload_n 0, 1) := by decide +kernel
theorem dL_law_155 : decode cL_law 155 = .ok (.bipush 6, 2) := by decide +kernel
theorem dL_law_157 : decode cL_law 157 = .ok (.bipush 20, 2) := by decide +kernel
theorem dL_law_159 : decode cL_law 159 = .ok (.iload 9, 2) := by decide +kernel
theorem dL_law_161 : decode cL_law 161 = .ok (.imul, 1) := by decide +kernel
theorem dL_law_162 : decode cL_law 162 = .ok (.iadd, 1) := by decide +kernel
theorem dL_law_163 : decode cL_law 163 = .ok (.invokestatic 54, 3) := by decide +kernel
theorem dL_law_166 : decode cL_law 166 = .ok (.bipush 9, 2) := by decide +kernel
theorem dL_law_168 : decode cL_law 168 = .ok (.invokestatic 58, 3) := by decide +kernel
theorem dL_law_171 : decode cL_law 171 = .ok (.iadd, 1) := by decide +kernel
theorem dL_law_172 : decode cL_law 172 = .ok (.istore 10, 2) := by decide +kernel
theorem dL_law_174 : decode cL_law 174 = .ok (.iconst 0, 1) := by decide +kernel
theorem dL_law_175 : decode cL_law 175 = .ok (.istore 11, 2) := by decide +kernel
theorem dL_law_177 : decode cL_law 177 = .ok (.iload 11, 2) := by decide +kernel
theorem dL_law_179 : decode cL_law 179 = .ok (.iload 10, 2) := by decide +kernel
theorem dL_law_181 : decode cL_law 181 = .ok (.if_icmp .ge 189, 3) := by decide +kernel
theorem dL_law_184 : decode cL_law 184 = .ok (.aload_n 0, 1) := by decide +kernel
theorem dL_law_185 : decode cL_law 185 = .ok (.bipush 7, 2) := by decide +kernel
theorem dL_law_187 : decode cL_law 187 = .ok (.bipush 20, 2) := by decide +kernel
theorem dL_law_189 : decode cL_law 189 = .ok (.iload 9, 2) := by decide +kernel
theorem dL_law_191 : decode cL_law 191 = .ok (.imul, 1) := by decide +kernel
theorem dL_law_192 : decode cL_law 192 = .ok (.iadd, 1) := by decide +kernel
theorem dL_law_193 : decode cL_law 193 = .ok (.iload 11, 2) := by decide +kernel
theorem dL_law_195 : decode cL_law 195 = .ok (.iadd, 1) := by decide +kernel
theorem dL_law_196 : decode cL_law 196 = .ok (.invokestatic 54, 3) := by decide +kernel
theorem dL_law_199 : decode cL_law 199 = .ok (.istore 12, 2) := by decide +kernel
theorem dL_law_201 : decode cL_law 201 = .ok (.aload_n 0, 1) := by decide +kernel
theorem dL_law_202 : decode cL_law 202 = .ok (.bipush 17, 2) := by decide +kernel
theorem dL_law_204 : decode cL_law 204 = .ok (.bipush 20, 2) := by decide +kernel
theorem dL_law_206 : decode cL_law 206 = .ok (.iload 9, 2) := by decide +kernel
theorem dL_law_208 : decode cL_law 208 = .ok (.imul, 1) := by decide +kernel
theorem dL_law_209 : decode cL_law 209 = .ok (.iadd, 1) := by decide +kernel
theorem dL_law_210 : decode cL_law 210 = .ok (.iload 11, 2) := by decide +kernel
theorem dL_law_212 : decode cL_law 212 = .ok (.iadd, 1) := by decide +kernel
theorem dL_law_213 : decode cL_law 213 = .ok (.invokestatic 54, 3) := by decide +kernel
theorem dL_law_216 : decode cL_law 216 = .ok (.istore 13, 2) := by decide +kernel
theorem dL_law_218 : decode cL_law 218 = .ok (.sipush 1440, 3) := by decide +kernel
theorem dL_law_221 : decode cL_law 221 = .ok (.iload 12, 2) := by decide +kernel
theorem dL_law_223 : decode cL_law 223 = .ok (.bipush 7, 2) := by decide +kernel
theorem dL_law_225 : decode cL_law 225 = .ok (.invokestatic 58, 3) := by decide +kernel
theorem dL_law_228 : decode cL_law 228 = .ok (.imul, 1) := by decide +kernel
theorem dL_law_229 : decode cL_law 229 = .ok (.iload 12, 2) := by decide +kernel
theorem dL_law_231 : decode cL_law 231 = .ok (.iconst 3, 1) := by decide +kernel
theorem dL_law_232 : decode cL_law 232 = .ok (.ishr, 1) := by decide +kernel
theorem dL_law_233 : decode cL_law 233 = .ok (.sipush 1400, 3) := by decide +kernel
theorem dL_law_236 : decode cL_law 236 = .ok (.invokestatic 58, 3) := by decide +kernel
theorem dL_law_239 : decode cL_law 239 = .ok (.iadd, 1) := by decide +kernel
theorem dL_law_240 : decode cL_law 240 = .ok (.istore 14, 2) := by decide +kernel
theorem dL_law_242 : decode cL_law 242 = .ok (.iload 14, 2) := by decide +kernel
theorem dL_law_244 : decode cL_law 244 = .ok (.iconst 1, 1) := by decide +kernel
theorem dL_law_245 : decode cL_law 245 = .ok (.iadd, 1) := by decide +kernel
theorem dL_law_246 : decode cL_law 246 = .ok (.iload 13, 2) := by decide +kernel
theorem dL_law_248 : decode cL_law 248 = .ok (.iload 13, 2) := by decide +kernel
theorem dL_law_250 : decode cL_law 250 = .ok (.bipush 12, 2) := by decide +kernel
theorem dL_law_252 : decode cL_law 252 = .ok (.ishr, 1) := by decide +kernel
theorem dL_law_253 : decode cL_law 253 = .ok (.iconst 3, 1) := by decide +kernel
theorem dL_law_254 : decode cL_law 254 = .ok (.invokestatic 58, 3) := by decide +kernel
theorem dL_law_257 : decode cL_law 257 = .ok (.ifCond .ne 9, 3) := by decide +kernel
theorem dL_law_260 : decode cL_law 260 = .ok (.sipush 900, 3) := by decide +kernel
theorem dL_law_263 : decode cL_law 263 = .ok (.goto 6, 3) := by decide +kernel
theorem dL_law_266 : decode cL_law 266 = .ok (.sipush 600, 3) := by decide +kernel
theorem dL_law_269 : decode cL_law 269 = .ok (.invokestatic 58, 3) := by decide +kernel
theorem dL_law_272 : decode cL_law 272 = .ok (.iadd, 1) := by decide +kernel
theorem dL_law_273 : decode cL_law 273 = .ok (.istore 15, 2) := by decide +kernel
theorem dL_law_275 : decode cL_law 275 = .ok (.aload_n 1, 1) := by decide +kernel
theorem dL_law_276 : decode cL_law 276 = .ok (.iconst 0, 1) := by decide +kernel
theorem dL_law_277 : decode cL_law 277 = .ok (.iload 14, 2) := by decide +kernel
theorem dL_law_279 : decode cL_law 279 = .ok (.iload 15, 2) := by decide +kernel
theorem dL_law_281 : decode cL_law 281 = .ok (.sipush 10080, 3) := by decide +kernel
theorem dL_law_284 : decode cL_law 284 = .ok (.if_icmp .le 9, 3) := by decide +kernel
theorem dL_law_287 : decode cL_law 287 = .ok (.sipush 10080, 3) := by decide +kernel
theorem dL_law_290 : decode cL_law 290 = .ok (.goto 5, 3) := by decide +kernel
theorem dL_law_293 : decode cL_law 293 = .ok (.iload 15, 2) := by decide +kernel
theorem dL_law_295 : decode cL_law 295 = .ok (.invokevirtual 68, 3) := by decide +kernel
theorem dL_law_298 : decode cL_law 298 = .ok (.pop, 1) := by decide +kernel
theorem dL_law_299 : decode cL_law 299 = .ok (.iload 12, 2) := by decide +kernel
theorem dL_law_301 : decode cL_law 301 = .ok (.bipush 14, 2) := by decide +kernel
theorem dL_law_303 : decode cL_law 303 = .ok (.ishr, 1) := by decide +kernel
theorem dL_law_304 : decode cL_law 304 = .ok (.iconst 4, 1) := by decide +kernel
theorem dL_law_305 : decode cL_law 305 = .ok (.invokestatic 58, 3) := by decide +kernel
theorem dL_law_308 : decode cL_law 308 = .ok (.ifCond .ne 56, 3) := by decide +kernel
theorem dL_law_311 : decode cL_law 311 = .ok (.aload_n 1, 1) := by decide +kernel
theorem dL_law_312 : decode cL_law 312 = .ok (.iconst 0, 1) := by decide +kernel
theorem dL_law_313 : decode cL_law 313 = .ok (.iload 14, 2) := by decide +kernel
theorem dL_law_315 : decode cL_law 315 = .ok (.bipush 40, 2) := by decide +kernel
theorem dL_law_317 : decode cL_law 317 = .ok (.iadd, 1) := by decide +kernel
theorem dL_law_318 : decode cL_law 318 = .ok (.iload 14, 2) := by decide +kernel
theorem dL_law_320 : decode cL_law 320 = .ok (.bipush 41, 2) := by decide +kernel
theorem dL_law_322 : decode cL_law 322 = .ok (.iadd, 1) := by decide +kernel
theorem dL_law_323 : decode cL_law 323 = .ok (.iload 13, 2) := by decide +kernel
theorem dL_law_325 : decode cL_law 325 = .ok (.iconst 5, 1) := by decide +kernel
theorem dL_law_326 : decode cL_law 326 = .ok (.ishr, 1) := by decide +kernel
theorem dL_law_327 : decode cL_law 327 = .ok (.bipush 90, 2) := by decide +kernel
theorem dL_law_329 : decode cL_law 329 = .ok (.invokestatic 58, 3) := by decide +kernel
theorem dL_law_332 : decode cL_law 332 = .ok (.iadd, 1) := by decide +kernel
theorem dL_law_333 : decode cL_law 333 = .ok (.sipush 10080, 3) := by decide +kernel
theorem dL_law_336 : decode cL_law 336 = .ok (.if_icmp .le 9, 3) := by decide +kernel
theorem dL_law_339 : decode cL_law 339 = .ok (.sipush 10080, 3) := by decide +kernel
theorem dL_law_342 : decode cL_law 342 = .ok (.goto 18, 3) := by decide +kernel
theorem dL_law_345 : decode cL_law 345 = .ok (.iload 14, 2) := by decide +kernel
theorem dL_law_347 : decode cL_law 347 = .ok (.bipush 41, 2) := by decide +kernel
theorem dL_law_349 : decode cL_law 349 = .ok (.iadd, 1) := by decide +kernel
theorem dL_law_350 : decode cL_law 350 = .ok (.iload 13, 2) := by decide +kernel
theorem dL_law_352 : decode cL_law 352 = .ok (.iconst 5, 1) := by decide +kernel
theorem dL_law_353 : decode cL_law 353 = .ok (.ishr, 1) := by decide +kernel
theorem dL_law_354 : decode cL_law 354 = .ok (.bipush 90, 2) := by decide +kernel
theorem dL_law_356 : decode cL_law 356 = .ok (.invokestatic 58, 3) := by decide +kernel
theorem dL_law_359 : decode cL_law 359 = .ok (.iadd, 1) := by decide +kernel
theorem dL_law_360 : decode cL_law 360 = .ok (.invokevirtual 71, 3) := by decide +kernel
theorem dL_law_363 : decode cL_law 363 = .ok (.pop, 1) := by decide +kernel
theorem dL_law_364 : decode cL_law 364 = .ok (.iinc 11 1, 3) := by decide +kernel
theorem dL_law_367 : decode cL_law 367 = .ok (.goto (-190), 3) := by decide +kernel
theorem dL_law_370 : decode cL_law 370 = .ok (.aload_n 1, 1) := by decide +kernel
theorem dL_law_371 : decode cL_law 371 = .ok (.aload 4, 2) := by decide +kernel
theorem dL_law_373 : decode cL_law 373 = .ok (.aload 5, 2) := by decide +kernel
theorem dL_law_375 : decode cL_law 375 = .ok (.iload_n 2, 1) := by decide +kernel
theorem dL_law_376 : decode cL_law 376 = .ok (.iload_n 3, 1) := by decide +kernel
theorem dL_law_377 : decode cL_law 377 = .ok (.ifCond .le 7, 3) := by decide +kernel
theorem dL_law_380 : decode cL_law 380 = .ok (.iconst 1, 1) := by decide +kernel
theorem dL_law_381 : decode cL_law 381 = .ok (.goto 4, 3) := by decide +kernel
theorem dL_law_384 : decode cL_law 384 = .ok (.iconst 0, 1) := by decide +kernel
theorem dL_law_385 : decode cL_law 385 = .ok (.invokestatic 74, 3) := by decide +kernel
theorem dL_law_388 : decode cL_law 388 = .ok (.ifCond .ne 5, 3) := by decide +kernel
theorem dL_law_391 : decode cL_law 391 = .ok (.iconst 0, 1) := by decide +kernel
theorem dL_law_392 : decode cL_law 392 = .ok (.ireturn, 1) := by decide +kernel
theorem dL_law_393 : decode cL_law 393 = .ok (.aload_n 1, 1) := by decide +kernel
theorem dL_law_394 : decode cL_law 394 = .ok (.iconst 0, 1) := by decide +kernel
theorem dL_law_395 : decode cL_law 395 = .ok (.invokevirtual 31, 3) := by decide +kernel
theorem dL_law_398 : decode cL_law 398 = .ok (.istore 11, 2) := by decide +kernel
theorem dL_law_400 : decode cL_law 400 = .ok (.aload_n 1, 1) := by decide +kernel
theorem dL_law_401 : decode cL_law 401 = .ok (.iconst 0, 1) := by decide +kernel
theorem dL_law_402 : decode cL_law 402 = .ok (.invokevirtual 78, 3) := by decide +kernel
theorem dL_law_405 : decode cL_law 405 = .ok (.istore 12, 2) := by decide +kernel
theorem dL_law_407 : decode cL_law 407 = .ok (.lload 6, 2) := by decide +kernel
theorem dL_law_409 : decode cL_law 409 = .ok (.iload 12, 2) := by decide +kernel
theorem dL_law_411 : decode cL_law 411 = .ok (.i2l, 1) := by decide +kernel
theorem dL_law_412 : decode cL_law 412 = .ok (.ladd, 1) := by decide +kernel
theorem dL_law_413 : decode cL_law 413 = .ok (.lstore 6, 2) := by decide +kernel
theorem dL_law_415 : decode cL_law 415 = .ok (.iinc 8 1, 3) := by decide +kernel
theorem dL_law_418 : decode cL_law 418 = .ok (.iload 12, 2) := by decide +kernel
theorem dL_law_420 : decode cL_law 420 = .ok (.iload 11, 2) := by decide +kernel
theorem dL_law_422 : decode cL_law 422 = .ok (.if_icmp .ne 32, 3) := by decide +kernel
theorem dL_law_425 : decode cL_law 425 = .ok (.aload_n 1, 1) := by decide +kernel
theorem dL_law_426 : decode cL_law 426 = .ok (.iconst 0, 1) := by decide +kernel
theorem dL_law_427 : decode cL_law 427 = .ok (.invokevirtual 81, 3) := by decide +kernel
theorem dL_law_430 : decode cL_law 430 = .ok (.lload 6, 2) := by decide +kernel
theorem dL_law_432 : decode cL_law 432 = .ok (.lcmp, 1) := by decide +kernel
theorem dL_law_433 : decode cL_law 433 = .ok (.ifCond .ne 21, 3) := by decide +kernel
theorem dL_law_436 : decode cL_law 436 = .ok (.aload_n 1, 1) := by decide +kernel
theorem dL_law_437 : decode cL_law 437 = .ok (.iconst 0, 1) := by decide +kernel
theorem dL_law_438 : decode cL_law 438 = .ok (.invokevirtual 85, 3) := by decide +kernel
theorem dL_law_441 : decode cL_law 441 = .ok (.iload 8, 2) := by decide +kernel
theorem dL_law_443 : decode cL_law 443 = .ok (.if_icmp .ne 11, 3) := by decide +kernel
theorem dL_law_446 : decode cL_law 446 = .ok (.aload_n 1, 1) := by decide +kernel
theorem dL_law_447 : decode cL_law 447 = .ok (.iconst 0, 1) := by decide +kernel
theorem dL_law_448 : decode cL_law 448 = .ok (.invokestatic 88, 3) := by decide +kernel
theorem dL_law_451 : decode cL_law 451 = .ok (.ifCond .ne 5, 3) := by decide +kernel
theorem dL_law_454 : decode cL_law 454 = .ok (.iconst 0, 1) := by decide +kernel
theorem dL_law_455 : decode cL_law 455 = .ok (.ireturn, 1) := by decide +kernel
theorem dL_law_456 : decode cL_law 456 = .ok (.iinc 9 1, 3) := by decide +kernel
theorem dL_law_459 : decode cL_law 459 = .ok (.goto (-312), 3) := by decide +kernel
theorem dL_law_462 : decode cL_law 462 = .ok (.iconst 1, 1) := by decide +kernel
theorem dL_law_463 : decode cL_law 463 = .ok (.ireturn, 1) := by decide +kernel
end
section
/-! One world for everything: cells by number ('ids'), their addresses by o; a memory M (ints) and G (longs). -/
abbrev Mem : Type := Nat → Nat → Int32
abbrev Mel : Type := Nat → Nat → Int64
def mst (M : Mem) (k j : Nat) (v : Int32) : Mem := fun q => if q = k then upd (M k) j v else M q
def mstL (G : Mel) (k j : Nat) (v : Int64) : Mel := fun q => if q = k then vp_updL (G k) j v else G q
theorem mst_self (M : Mem) (k j : Nat) (v : Int32) : mst M k j v k = upd (M k) j v := by simp [mst]
theorem mst_ne (M : Mem) {k q : Nat} (j : Nat) (v : Int32) (h : q ≠ k) : mst M k j v q = M q := by simp [mst, h]
theorem mstL_self (G : Mel) (k j : Nat) (v : Int64) : mstL G k j v k = vp_updL (G k) j v := by simp [mstL]
theorem mstL_ne (G : Mel) {k q : Nat} (j : Nat) (v : Int64) (h : q ≠ k) : mstL G k j v q = G q := by simp [mstL, h]
/-- width of the table k; the number of its cells (they are the cell k + 1) -/
def tw (k : Nat) : Int32 := if k = 31 then 4 else if k = 36 then 3 else if k = 39 then 3 else 2
def tl (k : Nat) : Nat := if k = 31 then 24 else if k = 34 then 320 else if k = 36 then 564 else if k = 39 then 480 else if k = 41 then 160 else if k = 44 then 80 else if (k - 46) % 7 = 1 then 80 else 40
def obT (ac : Nat → ClassId) (o : Nat → Nat) (k : Nat) (f : Nat → Int32) : va_E := .inr (4, [.int (tw k), .ref (o (k + 1)), .int (f 2)])
def obC (ac : Nat → ClassId) (k : Nat) (f : Nat → Int32) : va_E := .inl (ac 0, tl k, .inl f)
def obA (ac : Nat → ClassId) (n : Nat) (f : Nat → Int32) : va_E := .inl (ac 0, n, .inl f)
def obE (ac : Nat → ClassId) (o : Nat → Nat) (k : Nat) (f : Nat → Int32) (g : Nat → Int64) : va_E := .inr (0, [.int (f 0), .int (f 1), .long (g 2), .ref (o (k + 1)), .ref (o (k + 3)), .ref (o (k + 5))])
def obX (ac : Nat → ClassId) (o : Nat → Nat) (hn : Nat) : va_E := .inr (6, [.ref (o 29), .int (nI hn), .ref (o 30), .ref (o 33), .ref (o 38), .ref (o 43)])
def obS (ac : Nat → ClassId) (o : Nat → Nat) (hn : Nat) : va_E := .inl (ac 3, 6, .inr (.inr (.inr (.inr (fun j => if j < hn then some (o (46 + 7 * j)) else none)))))
/-- the cell of the number k -/
def ob (ac : Nat → ClassId) (o : Nat → Nat) (hn : Nat) (k : Nat) (f : Nat → Int32) (g : Nat → Int64) : va_E :=
  if k = 26 then obA ac 21 f else if k = 27 then obA ac 21 f else
  if k = 28 then obX ac o hn else if k = 29 then obS ac o hn else
  if k = 30 then .inr (2, [.ref (o 31)]) else if k = 31 then obT ac o 31 f else if k = 32 then obC ac 31 f else
  if k = 33 then .inr (1, [.ref (o 38), .ref (o 34), .ref (o 36)]) else if k = 34 then obT ac o 34 f else if k = 35 then obC ac 34 f else
  if k = 36 then obT ac o 36 f else if k = 37 then obC ac 36 f else
  if k = 38 then .inr (5, [.ref (o 43), .ref (o 39), .ref (o 41), .int (f 3)]) else if k = 39 then obT ac o 39 f else if k = 40 then obC ac 39 f else
  if k = 41 then obT ac o 41 f else if k = 42 then obC ac 41 f else
  if k = 43 then .inr (3, [.ref (o 44), .int (f 1)]) else if k = 44 then obT ac o 44 f else if k = 45 then obC ac 44 f else
  if (k - 46) % 7 = 0 then obE ac o k f g else
  if (k - 46) % 7 = 1 ∨ (k - 46) % 7 = 3 ∨ (k - 46) % 7 = 5 then obT ac o k f else obC ac (k - 1) f
/-- the number t is a table's -/
def isT (t : Nat) : Prop := t = 31 ∨ t = 34 ∨ t = 36 ∨ t = 39 ∨ t = 41 ∨ t = 44 ∨ (46 < t ∧ ((t - 46) % 7 = 1 ∨ (t - 46) % 7 = 3 ∨ (t - 46) % 7 = 5))
def tb (hn t : Nat) : Prop := isT t ∧ t + 1 < 46 + 7 * hn
/-- the number id is a cell's: the class's (28 and on), or one of the law's two arrays (26, 27), once it has made them (o 0 = 1) -/
def IDL (o : Nat → Nat) (hn id : Nat) : Prop := (28 ≤ id ∧ id < 46 + 7 * hn) ∨ ((id = 26 ∨ id = 27) ∧ o 0 = 1)
def pl (hn id : Nat) : Nat := if id < 28 then 18 + 7 * hn + (id - 26) else id - 28
def em (hn e : Nat) : Prop := 46 ≤ e ∧ (e - 46) % 7 = 0 ∧ e < 46 + 7 * hn
theorem tb_31 (hn : Nat) : tb hn 31 := ⟨Or.inl rfl, by omega⟩
theorem tb_34 (hn : Nat) : tb hn 34 := ⟨Or.inr (Or.inl rfl), by omega⟩
theorem tb_36 (hn : Nat) : tb hn 36 := ⟨Or.inr (Or.inr (Or.inl rfl)), by omega⟩
theorem tb_39 (hn : Nat) : tb hn 39 := ⟨Or.inr (Or.inr (Or.inr (Or.inl rfl))), by omega⟩
theorem tb_41 (hn : Nat) : tb hn 41 := ⟨Or.inr (Or.inr (Or.inr (Or.inr (Or.inl rfl)))), by omega⟩
theorem tb_44 (hn : Nat) : tb hn 44 := ⟨Or.inr (Or.inr (Or.inr (Or.inr (Or.inr (Or.inl rfl))))), by omega⟩
theorem tb_e1 {hn e : Nat} (h : em hn e) : tb hn (e + 1) := by
  obtain ⟨h1, h2, h3⟩ := h
  refine ⟨Or.inr (Or.inr (Or.inr (Or.inr (Or.inr (Or.inr ⟨by omega, Or.inl (by omega)⟩))))), by omega⟩
theorem tb_e3 {hn e : Nat} (h : em hn e) : tb hn (e + 3) := by
  obtain ⟨h1, h2, h3⟩ := h
  refine ⟨Or.inr (Or.inr (Or.inr (Or.inr (Or.inr (Or.inr ⟨by omega, Or.inr (Or.inl (by omega))⟩))))), by omega⟩
theorem tb_e5 {hn e : Nat} (h : em hn e) : tb hn (e + 5) := by
  obtain ⟨h1, h2, h3⟩ := h
  refine ⟨Or.inr (Or.inr (Or.inr (Or.inr (Or.inr (Or.inr ⟨by omega, Or.inr (Or.inr (by omega))⟩))))), by omega⟩
theorem em_i {hn i : Nat} (h : i < hn) : em hn (46 + 7 * i) := ⟨by omega, by omega, by omega⟩
theorem ob_big {ac : Nat → ClassId} {o : Nat → Nat} {hn k : Nat} (f : Nat → Int32) (g : Nat → Int64) (h : 46 ≤ k) : ob ac o hn k f g = if (k - 46) % 7 = 0 then obE ac o k f g else if (k - 46) % 7 = 1 ∨ (k - 46) % 7 = 3 ∨ (k - 46) % 7 = 5 then obT ac o k f else obC ac (k - 1) f := by
  have n : ∀ j, j < 46 → ¬ k = j := fun j hj => by omega
  simp only [ob, n 26 (by omega), n 27 (by omega), n 28 (by omega), n 29 (by omega), n 30 (by omega), n 31 (by omega), n 32 (by omega), n 33 (by omega), n 34 (by omega), n 35 (by omega), n 36 (by omega), n 37 (by omega), n 38 (by omega), n 39 (by omega), n 40 (by omega), n 41 (by omega), n 42 (by omega), n 43 (by omega), n 44 (by omega), n 45 (by omega), if_false]
theorem ob_T {ac : Nat → ClassId} {o : Nat → Nat} {hn t : Nat} (h : isT t) (f : Nat → Int32) (g : Nat → Int64) : ob ac o hn t f g = .inr (4, [.int (tw t), .ref (o (t + 1)), .int (f 2)]) := by
  rcases h with rfl | rfl | rfl | rfl | rfl | rfl | ⟨h1, h2⟩
  · rfl
  · rfl
  · rfl
  · rfl
  · rfl
  · rfl
  · rw [ob_big f g (by omega), if_neg (by omega), if_pos h2]; rfl
theorem ob_C {ac : Nat → ClassId} {o : Nat → Nat} {hn t : Nat} (h : isT t) (f : Nat → Int32) (g : Nat → Int64) : ob ac o hn (t + 1) f g = .inl (ac 0, tl t, .inl f) := by
  rcases h with rfl | rfl | rfl | rfl | rfl | rfl | ⟨h1, h2⟩
  · rfl
  · rfl
  · rfl
  · rfl
  · rfl
  · rfl
  · rw [ob_big f g (by omega), if_neg (by omega), if_neg (by omega)]; rfl
theorem ob_E {ac : Nat → ClassId} {o : Nat → Nat} {hn e : Nat} (h : em hn e) (f : Nat → Int32) (g : Nat → Int64) : ob ac o hn e f g = .inr (0, [.int (f 0), .int (f 1), .long (g 2), .ref (o (e + 1)), .ref (o (e + 3)), .ref (o (e + 5))]) := by
  obtain ⟨h1, h2, h3⟩ := h
  rw [ob_big f g h1, if_pos h2]; rfl
/-- the world -/
def Wd (ac : Nat → ClassId) (o : Nat → Nat) (hn : Nat) (M : Mem) (G : Mel) : va_W := (List.range (18 + 7 * hn)).map (fun k => (o (k + 28), ob ac o hn (k + 28) (M (k + 28)) (G (k + 28)))) ++ (if o 0 = 1 then [(o 26, obA ac 21 (M 26)), (o 27, obA ac 21 (M 27))] else [])
theorem wd_at {ac : Nat → ClassId} {o : Nat → Nat} {hn : Nat} {M : Mem} {G : Mel} {k : Nat} {e : va_E} (h : IDL o hn k) (he : ob ac o hn k (M k) (G k) = e) : (Wd ac o hn M G)[pl hn k]? = some (o k, e) := by
  subst he
  rcases h with ⟨h1, h2⟩ | ⟨h1, h2⟩
  · obtain ⟨j, rfl⟩ : ∃ j, k = j + 28 := ⟨k - 28, by omega⟩
    have hj : j < 18 + 7 * hn := by omega
    have e : pl hn (j + 28) = j := by unfold pl; rw [if_neg (by omega)]; omega
    rw [e, Wd, List.getElem?_append_left (by rw [List.length_map, List.length_range]; exact hj), List.getElem?_map, List.getElem?_range hj]
    rfl
  · rcases h1 with rfl | rfl
    · have e : pl hn 26 = 18 + 7 * hn := by unfold pl; rw [if_pos (by omega)]; rfl
      rw [e, Wd, List.getElem?_append_right (by rw [List.length_map, List.length_range]; omega), List.length_map, List.length_range, if_pos h2, Nat.sub_self]
      rfl
    · have e : pl hn 27 = 18 + 7 * hn + 1 := by unfold pl; rw [if_pos (by omega)]
      rw [e, Wd, List.getElem?_append_right (by rw [List.length_map, List.length_range]; omega), List.length_map, List.length_range, if_pos h2, Nat.add_sub_cancel_left]
      rfl
theorem wd_len {ac : Nat → ClassId} {o : Nat → Nat} {hn : Nat} {M : Mem} {G : Mel} : (Wd ac o hn M G).length = 18 + 7 * hn + (if o 0 = 1 then 2 else 0) := by
  rw [Wd, List.length_append, List.length_map, List.length_range]
  split <;> rfl
theorem wd_set {ac : Nat → ClassId} {o : Nat → Nat} {hn : Nat} {M M' : Mem} {G G' : Mel} {k : Nat} {e : va_E} (hk : IDL o hn k) (he : ob ac o hn k (M' k) (G' k) = e) (hM : ∀ q, q ≠ k → M' q = M q) (hG : ∀ q, q ≠ k → G' q = G q) : (Wd ac o hn M G).set (pl hn k) (o k, e) = Wd ac o hn M' G' := by
  have hlt : pl hn k < 18 + 7 * hn + (if o 0 = 1 then 2 else 0) := by
    unfold pl
    rcases hk with ⟨h1, h2⟩ | ⟨h1, h2⟩
    · rw [if_neg (by omega)]; omega
    · rw [if_pos (by omega), if_pos h2]; omega
  have hall : ∀ i, i < 18 + 7 * hn + (if o 0 = 1 then 2 else 0) → ∃ q, IDL o hn q ∧ pl hn q = i := by
    intro i hi
    by_cases c : i < 18 + 7 * hn
    · exact ⟨i + 28, Or.inl ⟨by omega, by omega⟩, by unfold pl; rw [if_neg (by omega)]; omega⟩
    · by_cases c2 : o 0 = 1
      · rw [if_pos c2] at hi
        exact ⟨26 + (i - (18 + 7 * hn)), Or.inr ⟨by omega, c2⟩, by unfold pl; rw [if_pos (by omega)]; omega⟩
      · rw [if_neg c2] at hi; omega
  have hinj : ∀ q, IDL o hn q → pl hn q = pl hn k → q = k := by
    intro q hq e
    unfold pl at e
    rcases hq with ⟨h1, h2⟩ | ⟨h1, h2⟩ <;> rcases hk with ⟨h3, h4⟩ | ⟨h3, h4⟩
    · rw [if_neg (by omega), if_neg (by omega)] at e; omega
    · rw [if_neg (by omega), if_pos (by omega)] at e; omega
    · rw [if_pos (by omega), if_neg (by omega)] at e; omega
    · rw [if_pos (by omega), if_pos (by omega)] at e; omega
  apply List.ext_getElem?
  intro i
  by_cases hik : pl hn k = i
  · subst hik
    rw [List.getElem?_set_self (by rw [wd_len]; exact hlt), wd_at hk he]
  · rw [List.getElem?_set_ne hik]
    by_cases hl : i < 18 + 7 * hn + (if o 0 = 1 then 2 else 0)
    · obtain ⟨q, h1, rfl⟩ := hall i hl
      have hqk : q ≠ k := fun e => hik (by rw [e])
      rw [wd_at h1 rfl, wd_at h1 rfl, hM q hqk, hG q hqk]
    · rw [List.getElem?_eq_none (by rw [wd_len]; omega), List.getElem?_eq_none (by rw [wd_len]; omega)]
abbrev Lx : Type := Launch × (Nat → ClassId) × (Nat → Nat → Nat) × (Nat → ClassId)
abbrev Cx : Type := Lx × Program × Env × Room × State × MethodId × Array Value × List Frame × Method × Code × (State → Prop) × (Nat → Prop)
abbrev tysL (ac : Nat → ClassId) : List (ClassId × FieldType) := [(ac 0, .int), (ac 3, .object "Timesheets$Employee")]
/-- the cells of the world lie in H, apart; nothing else has changed since H0 -/
def HW (dC : Nat → ClassId) (dI : Nat → Nat → Nat) (A : Nat → Prop) (w : va_W) (H0 H : Heap) (locs : List Loc) : Prop := va_P (dC, dI) vwCl w H ∧ va_D A w ∧ va_S A H0 H locs
/-- from the frame at pc, with locals lo and operands st, over the memory M, G: the rest of the run -/
def WM (X : Cx) (o : Nat → Nat) (hn : Nat) (M : Mem) (G : Mel) (k n pc nL : Nat) (lo : List (Nat × Value)) (st : List Value) : Prop :=
  match X with
  | ((l, dC, dI, ac), p, e, R, s, m, args, below, meth, c, Q, A) => ∀ (H : Heap) (locs : List Loc) (ls : Array Slot), HW dC dI A (Wd ac o hn M G) s.heap H locs → lv_has ls nL lo → W p l e R s m args below meth c H locs k n Q (F0 m pc ls st)
/-- what the tables and the heap say beside the good words -/
def xtra : Cond → Bool
  | .declares _ => true
  | .castable .. => true
  | .fieldLinkNest .. => true
  | .methodLinkNest .. => true
  | _ => false
abbrev eIAE : String := "java/lang/IllegalArgumentException"
abbrev eISE : String := "java/lang/IllegalStateException"
abbrev eIOB : String := "java/lang/IndexOutOfBoundsException"
abbrev eNSE : String := "java/util/NoSuchElementException"
def MF (A : Nat → Prop) (U : State) (H : Heap) : Prop := (∀ w ∈ lw_tbl, xtra w = true → w.before #[] U = true) ∧ va_AO "Timesheets$Employee" U
theorem xtra_warm {w : Cond} (hx : xtra w = true) {s U : State} (hW : s.WarmedH U.vm) (h : w.before #[] s = true) : w.before #[] U = true := by
  have hvm := hW.alike
  have tr : ∀ {c : Cond}, c.onTables = true → c.before #[] (s.setVm U.vm) = true → c.before #[] U = true := by
    intro c hc h
    have e := Cond.onTables_vm (A := #[]) (A' := #[]) (U := s) (U' := U) U.vm c hc
    have hU : U.setVm U.vm = U := rfl
    rw [hU] at e
    rw [← e]
    exact h
  cases w with
  | declares x => exact tr rfl (by rw [Cond.declares_setVm hvm]; exact h)
  | castable a b => exact tr rfl (by rw [Cond.castable_setVm hvm]; exact h)
  | fieldLinkNest a i b n d k => exact va_Nw.warmF hW h
  | methodLinkNest a i x k => exact va_Nw.warmM hW h
  | _ => simp [xtra] at hx
theorem xtra_same {w : Cond} (hx : xtra w = true) {s U : State} (hv : s.vm = U.vm) (h : w.before #[] s = true) : w.before #[] U = true := by
  cases w with
  | declares x => exact va_tabs rfl hv h
  | castable a b => exact va_tabs rfl hv h
  | fieldLinkNest a i b n d k => exact va_tabs rfl hv h
  | methodLinkNest a i x k => exact va_tabs rfl hv h
  | _ => simp [xtra] at hx
theorem xtra_use {w : Cond} (hx : xtra w = true) {s : State} {args : Array Value} (h : w.before #[] s = true) : w.before args s = true := by
  cases w with
  | declares x => exact va_tabs rfl rfl h
  | castable a b => exact va_tabs rfl rfl h
  | fieldLinkNest a i b n d k => exact va_tabs rfl rfl h
  | methodLinkNest a i x k => exact va_tabs rfl rfl h
  | _ => simp [xtra] at hx
theorem MF.warm {A B : Nat → Prop} {s U : State} {H H1 : Heap} (h : MF A s H) (hW : s.WarmedH U.vm) (hAB : ∀ q, B q → A q) (hq : ∀ q : Nat, q < H.size → ¬ A q → H1[q]? = H[q]?) : MF B U H1 := ⟨fun w hw hx => xtra_warm hx hW (h.1 w hw hx), h.2.moved hW.alike⟩
theorem MF.same {A : Nat → Prop} {s U : State} {H : Heap} (h : MF A s H) (hv : s.vm = U.vm) : MF A U H := ⟨fun w hw hx => xtra_same hx hv (h.1 w hw hx), h.2.moved (by rw [hv]; exact Vm.Alike.refl U.vm)⟩
/-- what is fixed in a method's body -/
def CxOK (X : Cx) (own : String) (cc : ByteArray) (nL fr lc mc ms : Nat) (rt : Option FieldType) : Prop :=
  match X with
  | ((l, dC, dI, ac), p, _, R, s, m, args, _, meth, c, _, A) => R = { frames := fr, cells := mc, slots := ms, locals := lc } ∧ p.tables.exec = Jvm.exec ∧ c.code = cc ∧ c.maxLocals = nL ∧ s.vm.findClass own = some m.cls ∧ (∀ w ∈ BG, w.before args s = true) ∧ va_K (dC, dI) vwCl (tysL ac) s ∧ (∀ q : Nat, s.heap.size ≤ q → A q) ∧ MF A s s.heap ∧ meth.sig.returnType = rt ∧ meth.locks = false ∧ l.stackTraces = false
section Rows
variable {X : Cx} {own : String} {cc : ByteArray} {nL fr lc mc ms : Nat} {rt : Option FieldType} {o : Nat → Nat} {hn : Nat} {M : Mem} {G : Mel} {a b pc : Nat} {lo : List (Nat × Value)} {st : List Value}
theorem q_iconst (hX : CxOK X own cc nL fr lc mc ms rt) {n : Int} (v : Int32) (hv : Int32.ofInt n = v) (d : decode cc pc = .ok (.iconst n, 1)) (k : WM X o hn M G a b (pc + 1) nL lo (.int v :: st)) : WM X o hn M G a b pc nL lo st := by
  obtain ⟨⟨l, dC, dI, ac⟩, p, e, R, s, m, args, below, meth, c, Q, A⟩ := X
  obtain ⟨hR, hx, hb, hml, hown, hts, hK, hA, hMF, hrt, hlk, htr⟩ := hX
  intro H locs ls hw hl
  exact lv_iconst hx hb d hv (k H locs ls hw hl)
theorem q_bipush (hX : CxOK X own cc nL fr lc mc ms rt) {n : Int} (v : Int32) (hv : (Int8.ofInt n).toInt32 = v) (d : decode cc pc = .ok (.bipush n, 2)) (k : WM X o hn M G a b (pc + 2) nL lo (.int v :: st)) : WM X o hn M G a b pc nL lo st := by
  obtain ⟨⟨l, dC, dI, ac⟩, p, e, R, s, m, args, below, meth, c, Q, A⟩ := X
  obtain ⟨hR, hx, hb, hml, hown, hts, hK, hA, hMF, hrt, hlk, htr⟩ := hX
  intro H locs ls hw hl
  exact lv_bipush hx hb d hv (k H locs ls hw hl)
theorem q_sipush (hX : CxOK X own cc nL fr lc mc ms rt) {n : Int} (v : Int32) (hv : (Int16.ofInt n).toInt32 = v) (d : decode cc pc = .ok (.sipush n, 3)) (k : WM X o hn M G a b (pc + 3) nL lo (.int v :: st)) : WM X o hn M G a b pc nL lo st := by
  obtain ⟨⟨l, dC, dI, ac⟩, p, e, R, s, m, args, below, meth, c, Q, A⟩ := X
  obtain ⟨hR, hx, hb, hml, hown, hts, hK, hA, hMF, hrt, hlk, htr⟩ := hX
  intro H locs ls hw hl
  exact lv_sipush hx hb d hv (k H locs ls hw hl)
theorem q_ldc (hX : CxOK X own cc nL fr lc mc ms rt) {i : Nat} {v : Int32} (hc : Cond.constant own i v ∈ BG) (d : decode cc pc = .ok (.ldc i, 2)) (k : WM X o hn M G a b (pc + 2) nL lo (.int v :: st)) : WM X o hn M G a b pc nL lo st := by
  obtain ⟨⟨l, dC, dI, ac⟩, p, e, R, s, m, args, below, meth, c, Q, A⟩ := X
  obtain ⟨hR, hx, hb, hml, hown, hts, hK, hA, hMF, hrt, hlk, htr⟩ := hX
  intro H locs ls hw hl
  exact lv_ldc hx hb hown (hts _ hc) d (k H locs ls hw hl)
theorem q_iload_n (hX : CxOK X own cc nL fr lc mc ms rt) {q : Fin 4} {i : Nat} {x : Int32} (j : Nat) (hi : (q : Nat) = i) (hj : lo[j]? = some (i, .int x)) (d : decode cc pc = .ok (.iload_n q, 1)) (k : WM X o hn M G a b (pc + 1) nL lo (.int x :: st)) : WM X o hn M G a b pc nL lo st := by
  obtain ⟨⟨l, dC, dI, ac⟩, p, e, R, s, m, args, below, meth, c, Q, A⟩ := X
  obtain ⟨hR, hx, hb, hml, hown, hts, hK, hA, hMF, hrt, hlk, htr⟩ := hX
  intro H locs ls hw hl
  exact lv_iload_n hx hb d hi (lv_at hl j hj) (k H locs ls hw hl)
theorem q_iload (hX : CxOK X own cc nL fr lc mc ms rt) {i : Nat} {x : Int32} (j : Nat) (hj : lo[j]? = some (i, .int x)) (d : decode cc pc = .ok (.iload i, 2)) (k : WM X o hn M G a b (pc + 2) nL lo (.int x :: st)) : WM X o hn M G a b pc nL lo st := by
  obtain ⟨⟨l, dC, dI, ac⟩, p, e, R, s, m, args, below, meth, c, Q, A⟩ := X
  obtain ⟨hR, hx, hb, hml, hown, hts, hK, hA, hMF, hrt, hlk, htr⟩ := hX
  intro H locs ls hw hl
  exact lv_iload hx hb d (lv_at hl j hj) (k H locs ls hw hl)
theorem q_aload_n (hX : CxOK X own cc nL fr lc mc ms rt) {q : Fin 4} {i x : Nat} (j : Nat) (hi : (q : Nat) = i) (hj : lo[j]? = some (i, .ref x)) (d : decode cc pc = .ok (.aload_n q, 1)) (k : WM X o hn M G a b (pc + 1) nL lo (.ref x :: st)) : WM X o hn M G a b pc nL lo st := by
  obtain ⟨⟨l, dC, dI, ac⟩, p, e, R, s, m, args, below, meth, c, Q, A⟩ := X
  obtain ⟨hR, hx, hb, hml, hown, hts, hK, hA, hMF, hrt, hlk, htr⟩ := hX
  intro H locs ls hw hl
  exact lv_aload_n hx hb d hi (lv_at hl j hj) (k H locs ls hw hl)
theorem q_aload (hX : CxOK X own cc nL fr lc mc ms rt) {i x : Nat} (j : Nat) (hj : lo[j]? = some (i, .ref x)) (d : decode cc pc = .ok (.aload i, 2)) (k : WM X o hn M G a b (pc + 2) nL lo (.ref x :: st)) : WM X o hn M G a b pc nL lo st := by
  obtain ⟨⟨l, dC, dI, ac⟩, p, e, R, s, m, args, below, meth, c, Q, A⟩ := X
  obtain ⟨hR, hx, hb, hml, hown, hts, hK, hA, hMF, hrt, hlk, htr⟩ := hX
  intro H locs ls hw hl
  exact lv_aload hx hb d (lv_at hl j hj) (k H locs ls hw hl)
theorem q_istore_n (hX : CxOK X own cc nL fr lc mc ms rt) {q : Fin 4} {i : Nat} {x : Int32} {lo' : List (Nat × Value)} (ks : List Nat) (hi : (q : Nat) = i) (hn' : i < nL) (hl' : lv_pick ((i, Value.int x) :: lo.filter (fun q => !(q.1 == i) && !(q.1 + 1 == i && q.2.category == 2))) ks = lo') (d : decode cc pc = .ok (.istore_n q, 1)) (k : WM X o hn M G a b (pc + 1) nL lo' st) : WM X o hn M G a b pc nL lo (.int x :: st) := by
  obtain ⟨⟨l, dC, dI, ac⟩, p, e, R, s, m, args, below, meth, c, Q, A⟩ := X
  obtain ⟨hR, hx, hb, hml, hown, hts, hK, hA, hMF, hrt, hlk, htr⟩ := hX
  intro H locs ls hw hl
  exact lv_istore_n hx hb d hi hl hn' rfl (fun ls2 hl2 => k H locs ls2 hw (lv_sub hl2 ks hl'))
theorem q_istore (hX : CxOK X own cc nL fr lc mc ms rt) {i : Nat} {x : Int32} {lo' : List (Nat × Value)} (ks : List Nat) (hn' : i < nL) (hl' : lv_pick ((i, Value.int x) :: lo.filter (fun q => !(q.1 == i) && !(q.1 + 1 == i && q.2.category == 2))) ks = lo') (d : decode cc pc = .ok (.istore i, 2)) (k : WM X o hn M G a b (pc + 2) nL lo' st) : WM X o hn M G a b pc nL lo (.int x :: st) := by
  obtain ⟨⟨l, dC, dI, ac⟩, p, e, R, s, m, args, below, meth, c, Q, A⟩ := X
  obtain ⟨hR, hx, hb, hml, hown, hts, hK, hA, hMF, hrt, hlk, htr⟩ := hX
  intro H locs ls hw hl
  exact lv_istore hx hb d hl hn' rfl (fun ls2 hl2 => k H locs ls2 hw (lv_sub hl2 ks hl'))
theorem q_astore_n (hX : CxOK X own cc nL fr lc mc ms rt) {q : Fin 4} {i x : Nat} {lo' : List (Nat × Value)} (ks : List Nat) (hi : (q : Nat) = i) (hn' : i < nL) (hl' : lv_pick ((i, Value.ref x) :: lo.filter (fun q => !(q.1 == i) && !(q.1 + 1 == i && q.2.category == 2))) ks = lo') (d : decode cc pc = .ok (.astore_n q, 1)) (k : WM X o hn M G a b (pc + 1) nL lo' st) : WM X o hn M G a b pc nL lo (.ref x :: st) := by
  obtain ⟨⟨l, dC, dI, ac⟩, p, e, R, s, m, args, below, meth, c, Q, A⟩ := X
  obtain ⟨hR, hx, hb, hml, hown, hts, hK, hA, hMF, hrt, hlk, htr⟩ := hX
  intro H locs ls hw hl
  exact lv_astore_n hx hb d hi hl hn' rfl (fun ls2 hl2 => k H locs ls2 hw (lv_sub hl2 ks hl'))
theorem q_iinc (hX : CxOK X own cc nL fr lc mc ms rt) {i : Nat} {n : Int} {x : Int32} {lo' : List (Nat × Value)} (j : Nat) (v : Int32) (ks : List Nat) (hj : lo[j]? = some (i, .int x)) (hv : x + Int32.ofInt n = v) (hn' : i < nL) (hl' : lv_pick ((i, Value.int v) :: lo.filter (fun q => !(q.1 == i) && !(q.1 + 1 == i && q.2.category == 2))) ks = lo') (d : decode cc pc = .ok (.iinc i n, 3)) (k : WM X o hn M G a b (pc + 3) nL lo' st) : WM X o hn M G a b pc nL lo st := by
  obtain ⟨⟨l, dC, dI, ac⟩, p, e, R, s, m, args, below, meth, c, Q, A⟩ := X
  obtain ⟨hR, hx, hb, hml, hown, hts, hK, hA, hMF, hrt, hlk, htr⟩ := hX
  intro H locs ls hw hl
  exact lv_iinc hx hb d hl hj hv hn' rfl (fun ls2 hl2 => k H locs ls2 hw (lv_sub hl2 ks hl'))
theorem q_iadd (hX : CxOK X own cc nL fr lc mc ms rt) {x y : Int32} (d : decode cc pc = .ok (.iadd, 1)) (k : WM X o hn M G a b (pc + 1) nL lo (.int (x + y) :: st)) : WM X o hn M G a b pc nL lo (.int y :: .int x :: st) := by
  obtain ⟨⟨l, dC, dI, ac⟩, p, e, R, s, m, args, below, meth, c, Q, A⟩ := X
  obtain ⟨hR, hx, hb, hml, hown, hts, hK, hA, hMF, hrt, hlk, htr⟩ := hX
  intro H locs ls hw hl
  exact lv_iadd hx hb d (k H locs ls hw hl)
theorem q_isub (hX : CxOK X own cc nL fr lc mc ms rt) {x y : Int32} (d : decode cc pc = .ok (.isub, 1)) (k : WM X o hn M G a b (pc + 1) nL lo (.int (x - y) :: st)) : WM X o hn M G a b pc nL lo (.int y :: .int x :: st) := by
  obtain ⟨⟨l, dC, dI, ac⟩, p, e, R, s, m, args, below, meth, c, Q, A⟩ := X
  obtain ⟨hR, hx, hb, hml, hown, hts, hK, hA, hMF, hrt, hlk, htr⟩ := hX
  intro H locs ls hw hl
  exact lv_isub hx hb d (k H locs ls hw hl)
theorem q_imul (hX : CxOK X own cc nL fr lc mc ms rt) {x y : Int32} (d : decode cc pc = .ok (.imul, 1)) (k : WM X o hn M G a b (pc + 1) nL lo (.int (x * y) :: st)) : WM X o hn M G a b pc nL lo (.int y :: .int x :: st) := by
  obtain ⟨⟨l, dC, dI, ac⟩, p, e, R, s, m, args, below, meth, c, Q, A⟩ := X
  obtain ⟨hR, hx, hb, hml, hown, hts, hK, hA, hMF, hrt, hlk, htr⟩ := hX
  intro H locs ls hw hl
  exact lv_imul hx hb d (k H locs ls hw hl)
theorem q_iand (hX : CxOK X own cc nL fr lc mc ms rt) {x y : Int32} (d : decode cc pc = .ok (.iand, 1)) (k : WM X o hn M G a b (pc + 1) nL lo (.int (x &&& y) :: st)) : WM X o hn M G a b pc nL lo (.int y :: .int x :: st) := by
  obtain ⟨⟨l, dC, dI, ac⟩, p, e, R, s, m, args, below, meth, c, Q, A⟩ := X
  obtain ⟨hR, hx, hb, hml, hown, hts, hK, hA, hMF, hrt, hlk, htr⟩ := hX
  intro H locs ls hw hl
  exact lv_iand hx hb d (k H locs ls hw hl)
theorem q_ishr (hX : CxOK X own cc nL fr lc mc ms rt) {x y : Int32} (d : decode cc pc = .ok (.ishr, 1)) (k : WM X o hn M G a b (pc + 1) nL lo (.int (x >>> (y &&& 31)) :: st)) : WM X o hn M G a b pc nL lo (.int y :: .int x :: st) := by
  obtain ⟨⟨l, dC, dI, ac⟩, p, e, R, s, m, args, below, meth, c, Q, A⟩ := X
  obtain ⟨hR, hx, hb, hml, hown, hts, hK, hA, hMF, hrt, hlk, htr⟩ := hX
  intro H locs ls hw hl
  exact lv_ishr hx hb d (k H locs ls hw hl)
theorem q_idiv (hX : CxOK X own cc nL fr lc mc ms rt) {x y : Int32} (h0 : ¬ y = 0) (d : decode cc pc = .ok (.idiv, 1)) (k : WM X o hn M G a b (pc + 1) nL lo (.int (x / y) :: st)) : WM X o hn M G a b pc nL lo (.int y :: .int x :: st) := by
  obtain ⟨⟨l, dC, dI, ac⟩, p, e, R, s, m, args, below, meth, c, Q, A⟩ := X
  obtain ⟨hR, hx, hb, hml, hown, hts, hK, hA, hMF, hrt, hlk, htr⟩ := hX
  intro H locs ls hw hl
  exact lv_idiv hx hb d h0 (k H locs ls hw hl)
theorem q_irem (hX : CxOK X own cc nL fr lc mc ms rt) {x y : Int32} (h0 : ¬ y = 0) (d : decode cc pc = .ok (.irem, 1)) (k : WM X o hn M G a b (pc + 1) nL lo (.int (x - x / y * y) :: st)) : WM X o hn M G a b pc nL lo (.int y :: .int x :: st) := by
  obtain ⟨⟨l, dC, dI, ac⟩, p, e, R, s, m, args, below, meth, c, Q, A⟩ := X
  obtain ⟨hR, hx, hb, hml, hown, hts, hK, hA, hMF, hrt, hlk, htr⟩ := hX
  intro H locs ls hw hl
  exact lv_irem hx hb d h0 (k H locs ls hw hl)
theorem q_ineg (hX : CxOK X own cc nL fr lc mc ms rt) {x : Int32} (d : decode cc pc = .ok (.ineg, 1)) (k : WM X o hn M G a b (pc + 1) nL lo (.int (-x) :: st)) : WM X o hn M G a b pc nL lo (.int x :: st) := by
  obtain ⟨⟨l, dC, dI, ac⟩, p, e, R, s, m, args, below, meth, c, Q, A⟩ := X
  obtain ⟨hR, hx, hb, hml, hown, hts, hK, hA, hMF, hrt, hlk, htr⟩ := hX
  intro H locs ls hw hl
  exact lv_ineg hx hb d (k H locs ls hw hl)
theorem q_i2l (hX : CxOK X own cc nL fr lc mc ms rt) {x : Int32} (d : decode cc pc = .ok (.i2l, 1)) (k : WM X o hn M G a b (pc + 1) nL lo (.long x.toInt64 :: st)) : WM X o hn M G a b pc nL lo (.int x :: st) := by
  obtain ⟨⟨l, dC, dI, ac⟩, p, e, R, s, m, args, below, meth, c, Q, A⟩ := X
  obtain ⟨hR, hx, hb, hml, hown, hts, hK, hA, hMF, hrt, hlk, htr⟩ := hX
  intro H locs ls hw hl
  exact lv_i2l hx hb d rfl (k H locs ls hw hl)
theorem q_ladd (hX : CxOK X own cc nL fr lc mc ms rt) {x y : Int64} (d : decode cc pc = .ok (.ladd, 1)) (k : WM X o hn M G a b (pc + 1) nL lo (.long (x + y) :: st)) : WM X o hn M G a b pc nL lo (.long y :: .long x :: st) := by
  obtain ⟨⟨l, dC, dI, ac⟩, p, e, R, s, m, args, below, meth, c, Q, A⟩ := X
  obtain ⟨hR, hx, hb, hml, hown, hts, hK, hA, hMF, hrt, hlk, htr⟩ := hX
  intro H locs ls hw hl
  exact lv_ladd hx hb d (k H locs ls hw hl)
theorem q_lconst (hX : CxOK X own cc nL fr lc mc ms rt) {n : Fin 2} (v : Int64) (hv : Int64.ofNat (n : Nat) = v) (d : decode cc pc = .ok (.lconst n, 1)) (k : WM X o hn M G a b (pc + 1) nL lo (.long v :: st)) : WM X o hn M G a b pc nL lo st := by
  obtain ⟨⟨l, dC, dI, ac⟩, p, e, R, s, m, args, below, meth, c, Q, A⟩ := X
  obtain ⟨hR, hx, hb, hml, hown, hts, hK, hA, hMF, hrt, hlk, htr⟩ := hX
  intro H locs ls hw hl
  exact lv_lconst hx hb d hv (k H locs ls hw hl)
theorem q_dup (hX : CxOK X own cc nL fr lc mc ms rt) {v : Value} (hv : v.category = 1) (d : decode cc pc = .ok (.dup, 1)) (k : WM X o hn M G a b (pc + 1) nL lo (v :: v :: st)) : WM X o hn M G a b pc nL lo (v :: st) := by
  obtain ⟨⟨l, dC, dI, ac⟩, p, e, R, s, m, args, below, meth, c, Q, A⟩ := X
  obtain ⟨hR, hx, hb, hml, hown, hts, hK, hA, hMF, hrt, hlk, htr⟩ := hX
  intro H locs ls hw hl
  exact lv_dup hx hb d hv (k H locs ls hw hl)
theorem q_dup2 (hX : CxOK X own cc nL fr lc mc ms rt) {v w : Value} (hv : v.category = 1) (hw' : w.category = 1) (d : decode cc pc = .ok (.dup2, 1)) (k : WM X o hn M G a b (pc + 1) nL lo (v :: w :: v :: w :: st)) : WM X o hn M G a b pc nL lo (v :: w :: st) := by
  obtain ⟨⟨l, dC, dI, ac⟩, p, e, R, s, m, args, below, meth, c, Q, A⟩ := X
  obtain ⟨hR, hx, hb, hml, hown, hts, hK, hA, hMF, hrt, hlk, htr⟩ := hX
  intro H locs ls hw hl
  exact lv_dup2_11 hx hb d hv hw' (k H locs ls hw hl)
theorem q_dup_x1 (hX : CxOK X own cc nL fr lc mc ms rt) {v w : Value} (hv : v.category = 1) (hw' : w.category = 1) (d : decode cc pc = .ok (.dup_x1, 1)) (k : WM X o hn M G a b (pc + 1) nL lo (v :: w :: v :: st)) : WM X o hn M G a b pc nL lo (v :: w :: st) := by
  obtain ⟨⟨l, dC, dI, ac⟩, p, e, R, s, m, args, below, meth, c, Q, A⟩ := X
  obtain ⟨hR, hx, hb, hml, hown, hts, hK, hA, hMF, hrt, hlk, htr⟩ := hX
  intro H locs ls hw hl
  exact lv_dup_x1 hx hb d hv hw' (k H locs ls hw hl)
theorem q_pop (hX : CxOK X own cc nL fr lc mc ms rt) {v : Value} (hv : v.category = 1) (d : decode cc pc = .ok (.pop, 1)) (k : WM X o hn M G a b (pc + 1) nL lo st) : WM X o hn M G a b pc nL lo (v :: st) := by
  obtain ⟨⟨l, dC, dI, ac⟩, p, e, R, s, m, args, below, meth, c, Q, A⟩ := X
  obtain ⟨hR, hx, hb, hml, hown, hts, hK, hA, hMF, hrt, hlk, htr⟩ := hX
  intro H locs ls hw hl
  exact lv_pop hx hb d hv (k H locs ls hw hl)
theorem q_goto (hX : CxOK X own cc nL fr lc mc ms rt) {off : Int} (tgt : Nat) (ht : (pc : Int) + off = (tgt : Int)) (d : decode cc pc = .ok (.goto off, 3)) (k : WM X o hn M G a b tgt nL lo st) : WM X o hn M G a b pc nL lo st := by
  obtain ⟨⟨l, dC, dI, ac⟩, p, e, R, s, m, args, below, meth, c, Q, A⟩ := X
  obtain ⟨hR, hx, hb, hml, hown, hts, hK, hA, hMF, hrt, hlk, htr⟩ := hX
  intro H locs ls hw hl
  exact lv_goto hx hb d ht (k H locs ls hw hl)
theorem q_ifnonnull (hX : CxOK X own cc nL fr lc mc ms rt) {x : Nat} {off : Int} (tgt : Nat) (ht : (pc : Int) + off = (tgt : Int)) (d : decode cc pc = .ok (.ifnonnull off, 3)) (k : WM X o hn M G a b tgt nL lo st) : WM X o hn M G a b pc nL lo (.ref x :: st) := by
  obtain ⟨⟨l, dC, dI, ac⟩, p, e, R, s, m, args, below, meth, c, Q, A⟩ := X
  obtain ⟨hR, hx, hb, hml, hown, hts, hK, hA, hMF, hrt, hlk, htr⟩ := hX
  intro H locs ls hw hl
  exact lv_ifnonnull hx hb d ht (k H locs ls hw hl)
theorem q_if_eq (hX : CxOK X own cc nL fr lc mc ms rt) {x : Int32} {off : Int} (tgt : Nat) (ht : (pc : Int) + off = (tgt : Int)) (d : decode cc pc = .ok (.ifCond .eq off, 3)) (kt : x = 0 → WM X o hn M G a b tgt nL lo st) (kf : ¬ x = 0 → WM X o hn M G a b (pc + 3) nL lo st) : WM X o hn M G a b pc nL lo (.int x :: st) := by
  obtain ⟨⟨l, dC, dI, ac⟩, p, e, R, s, m, args, below, meth, c, Q, A⟩ := X
  obtain ⟨hR, hx, hb, hml, hown, hts, hK, hA, hMF, hrt, hlk, htr⟩ := hX
  intro H locs ls hw hl
  exact lv_if_eq hx hb d ht (fun h => kt h H locs ls hw hl) (fun h => kf h H locs ls hw hl)
theorem q_if_ne (hX : CxOK X own cc nL fr lc mc ms rt) {x : Int32} {off : Int} (tgt : Nat) (ht : (pc : Int) + off = (tgt : Int)) (d : decode cc pc = .ok (.ifCond .ne off, 3)) (kt : ¬ x = 0 → WM X o hn M G a b tgt nL lo st) (kf : x = 0 → WM X o hn M G a b (pc + 3) nL lo st) : WM X o hn M G a b pc nL lo (.int x :: st) := by
  obtain ⟨⟨l, dC, dI, ac⟩, p, e, R, s, m, args, below, meth, c, Q, A⟩ := X
  obtain ⟨hR, hx, hb, hml, hown, hts, hK, hA, hMF, hrt, hlk, htr⟩ := hX
  intro H locs ls hw hl
  exact lv_if_ne hx hb d ht (fun h => kt h H locs ls hw hl) (fun h => kf h H locs ls hw hl)
theorem q_if_lt (hX : CxOK X own cc nL fr lc mc ms rt) {x : Int32} {off : Int} (tgt : Nat) (ht : (pc : Int) + off = (tgt : Int)) (d : decode cc pc = .ok (.ifCond .lt off, 3)) (kt : x < 0 → WM X o hn M G a b tgt nL lo st) (kf : ¬ x < 0 → WM X o hn M G a b (pc + 3) nL lo st) : WM X o hn M G a b pc nL lo (.int x :: st) := by
  obtain ⟨⟨l, dC, dI, ac⟩, p, e, R, s, m, args, below, meth, c, Q, A⟩ := X
  obtain ⟨hR, hx, hb, hml, hown, hts, hK, hA, hMF, hrt, hlk, htr⟩ := hX
  intro H locs ls hw hl
  exact lv_if_lt hx hb d ht (fun h => kt h H locs ls hw hl) (fun h => kf h H locs ls hw hl)
theorem q_if_ge (hX : CxOK X own cc nL fr lc mc ms rt) {x : Int32} {off : Int} (tgt : Nat) (ht : (pc : Int) + off = (tgt : Int)) (d : decode cc pc = .ok (.ifCond .ge off, 3)) (kt : 0 ≤ x → WM X o hn M G a b tgt nL lo st) (kf : ¬ 0 ≤ x → WM X o hn M G a b (pc + 3) nL lo st) : WM X o hn M G a b pc nL lo (.int x :: st) := by
  obtain ⟨⟨l, dC, dI, ac⟩, p, e, R, s, m, args, below, meth, c, Q, A⟩ := X
  obtain ⟨hR, hx, hb, hml, hown, hts, hK, hA, hMF, hrt, hlk, htr⟩ := hX
  intro H locs ls hw hl
  exact lv_if_ge hx hb d ht (fun h => kt h H locs ls hw hl) (fun h => kf h H locs ls hw hl)
theorem q_if_gt (hX : CxOK X own cc nL fr lc mc ms rt) {x : Int32} {off : Int} (tgt : Nat) (ht : (pc : Int) + off = (tgt : Int)) (d : decode cc pc = .ok (.ifCond .gt off, 3)) (kt : 0 < x → WM X o hn M G a b tgt nL lo st) (kf : ¬ 0 < x → WM X o hn M G a b (pc + 3) nL lo st) : WM X o hn M G a b pc nL lo (.int x :: st) := by
  obtain ⟨⟨l, dC, dI, ac⟩, p, e, R, s, m, args, below, meth, c, Q, A⟩ := X
  obtain ⟨hR, hx, hb, hml, hown, hts, hK, hA, hMF, hrt, hlk, htr⟩ := hX
  intro H locs ls hw hl
  exact lv_if_gt hx hb d ht (fun h => kt h H locs ls hw hl) (fun h => kf h H locs ls hw hl)
theorem q_if_le (hX : CxOK X own cc nL fr lc mc ms rt) {x : Int32} {off : Int} (tgt : Nat) (ht : (pc : Int) + off = (tgt : Int)) (d : decode cc pc = .ok (.ifCond .le off, 3)) (kt : x ≤ 0 → WM X o hn M G a b tgt nL lo st) (kf : ¬ x ≤ 0 → WM X o hn M G a b (pc + 3) nL lo st) : WM X o hn M G a b pc nL lo (.int x :: st) := by
  obtain ⟨⟨l, dC, dI, ac⟩, p, e, R, s, m, args, below, meth, c, Q, A⟩ := X
  obtain ⟨hR, hx, hb, hml, hown, hts, hK, hA, hMF, hrt, hlk, htr⟩ := hX
  intro H locs ls hw hl
  exact lv_if_le hx hb d ht (fun h => kt h H locs ls hw hl) (fun h => kf h H locs ls hw hl)
theorem q_icmp_eq (hX : CxOK X own cc nL fr lc mc ms rt) {x y : Int32} {off : Int} (tgt : Nat) (ht : (pc : Int) + off = (tgt : Int)) (d : decode cc pc = .ok (.if_icmp .eq off, 3)) (kt : x = y → WM X o hn M G a b tgt nL lo st) (kf : ¬ x = y → WM X o hn M G a b (pc + 3) nL lo st) : WM X o hn M G a b pc nL lo (.int y :: .int x :: st) := by
  obtain ⟨⟨l, dC, dI, ac⟩, p, e, R, s, m, args, below, meth, c, Q, A⟩ := X
  obtain ⟨hR, hx, hb, hml, hown, hts, hK, hA, hMF, hrt, hlk, htr⟩ := hX
  intro H locs ls hw hl
  exact lv_icmp_eq hx hb d ht (fun h => kt h H locs ls hw hl) (fun h => kf h H locs ls hw hl)
theorem q_icmp_ne (hX : CxOK X own cc nL fr lc mc ms rt) {x y : Int32} {off : Int} (tgt : Nat) (ht : (pc : Int) + off = (tgt : Int)) (d : decode cc pc = .ok (.if_icmp .ne off, 3)) (kt : ¬ x = y → WM X o hn M G a b tgt nL lo st) (kf : x = y → WM X o hn M G a b (pc + 3) nL lo st) : WM X o hn M G a b pc nL lo (.int y :: .int x :: st) := by
  obtain ⟨⟨l, dC, dI, ac⟩, p, e, R, s, m, args, below, meth, c, Q, A⟩ := X
  obtain ⟨hR, hx, hb, hml, hown, hts, hK, hA, hMF, hrt, hlk, htr⟩ := hX
  intro H locs ls hw hl
  exact lv_icmp_ne hx hb d ht (fun h => kt h H locs ls hw hl) (fun h => kf h H locs ls hw hl)
theorem q_icmp_lt (hX : CxOK X own cc nL fr lc mc ms rt) {x y : Int32} {off : Int} (tgt : Nat) (ht : (pc : Int) + off = (tgt : Int)) (d : decode cc pc = .ok (.if_icmp .lt off, 3)) (kt : x < y → WM X o hn M G a b tgt nL lo st) (kf : ¬ x < y → WM X o hn M G a b (pc + 3) nL lo st) : WM X o hn M G a b pc nL lo (.int y :: .int x :: st) := by
  obtain ⟨⟨l, dC, dI, ac⟩, p, e, R, s, m, args, below, meth, c, Q, A⟩ := X
  obtain ⟨hR, hx, hb, hml, hown, hts, hK, hA, hMF, hrt, hlk, htr⟩ := hX
  intro H locs ls hw hl
  exact lv_icmp_lt hx hb d ht (fun h => kt h H locs ls hw hl) (fun h => kf h H locs ls hw hl)
theorem q_icmp_ge (hX : CxOK X own cc nL fr lc mc ms rt) {x y : Int32} {off : Int} (tgt : Nat) (ht : (pc : Int) + off = (tgt : Int)) (d : decode cc pc = .ok (.if_icmp .ge off, 3)) (kt : y ≤ x → WM X o hn M G a b tgt nL lo st) (kf : ¬ y ≤ x → WM X o hn M G a b (pc + 3) nL lo st) : WM X o hn M G a b pc nL lo (.int y :: .int x :: st) := by
  obtain ⟨⟨l, dC, dI, ac⟩, p, e, R, s, m, args, below, meth, c, Q, A⟩ := X
  obtain ⟨hR, hx, hb, hml, hown, hts, hK, hA, hMF, hrt, hlk, htr⟩ := hX
  intro H locs ls hw hl
  exact lv_icmp_ge hx hb d ht (fun h => kt h H locs ls hw hl) (fun h => kf h H locs ls hw hl)
theorem q_icmp_gt (hX : CxOK X own cc nL fr lc mc ms rt) {x y : Int32} {off : Int} (tgt : Nat) (ht : (pc : Int) + off = (tgt : Int)) (d : decode cc pc = .ok (.if_icmp .gt off, 3)) (kt : y < x → WM X o hn M G a b tgt nL lo st) (kf : ¬ y < x → WM X o hn M G a b (pc + 3) nL lo st) : WM X o hn M G a b pc nL lo (.int y :: .int x :: st) := by
  obtain ⟨⟨l, dC, dI, ac⟩, p, e, R, s, m, args, below, meth, c, Q, A⟩ := X
  obtain ⟨hR, hx, hb, hml, hown, hts, hK, hA, hMF, hrt, hlk, htr⟩ := hX
  intro H locs ls hw hl
  exact lv_icmp_gt hx hb d ht (fun h => kt h H locs ls hw hl) (fun h => kf h H locs ls hw hl)
theorem q_icmp_le (hX : CxOK X own cc nL fr lc mc ms rt) {x y : Int32} {off : Int} (tgt : Nat) (ht : (pc : Int) + off = (tgt : Int)) (d : decode cc pc = .ok (.if_icmp .le off, 3)) (kt : x ≤ y → WM X o hn M G a b tgt nL lo st) (kf : ¬ x ≤ y → WM X o hn M G a b (pc + 3) nL lo st) : WM X o hn M G a b pc nL lo (.int y :: .int x :: st) := by
  obtain ⟨⟨l, dC, dI, ac⟩, p, e, R, s, m, args, below, meth, c, Q, A⟩ := X
  obtain ⟨hR, hx, hb, hml, hown, hts, hK, hA, hMF, hrt, hlk, htr⟩ := hX
  intro H locs ls hw hl
  exact lv_icmp_le hx hb d ht (fun h => kt h H locs ls hw hl) (fun h => kf h H locs ls hw hl)
/-- a field's link: its own class's, or a nest mate's -/
def FL (own : String) (idx : Nat) (ref n d : String) : Prop := Cond.fieldLink own idx ref n d ∈ BG ∨ ∃ host : String, Cond.fieldLinkNest own idx ref n d host ∈ lw_tbl
theorem q_get (hX : CxOK X own cc nL fr lc mc ms rt) {C : String} {T : u_T} {N ci index id : Nat} {fs : List Value} {v : Value} (j : Nat) (hk : IDL o hn id) (he : ob X.1.2.2.2 o hn id (M id) (G id) = .inr (ci, fs)) (hc : vwCl[ci]? = some (C, T, N)) (hin : ∀ w ∈ u_ws C T N, w ∈ BG) (hj : j < N) (hfl : FL own index (T j).1 (T j).2.1 (T j).2.2.1) (hv : fs[j]? = some v) (d : decode cc pc = .ok (.getfield index, 3)) (k : WM X o hn M G a b (pc + 3) nL lo (v :: st)) : WM X o hn M G a b pc nL lo (.ref (o id) :: st) := by
  obtain ⟨⟨l, dC, dI, ac⟩, p, e, R, s, m, args, below, meth, c, Q, A⟩ := X
  obtain ⟨hR, hx, hb, hml, hown, hts, hK, hA, hMF, hrt, hlk, htr⟩ := hX
  intro H locs ls hw hl
  rcases hfl with hfl | ⟨host, hfl⟩
  · exact va_get hx hb hts hin hown hK hw.1 (pl hn id) (wd_at hk he) hc j hj (hts _ hfl) (fun _ h9 => h9) hv d (k H locs ls hw hl)
  · exact va_getN hx hb hts hin hown hK hw.1 (pl hn id) (wd_at hk he) hc j hj (xtra_use rfl (hMF.1 _ hfl rfl)) (fun _ h9 => h9) hv d (k H locs ls hw hl)
theorem q_put (hX : CxOK X own cc nL fr lc mc ms rt) {C : String} {T : u_T} {N ci index id : Nat} {fs : List Value} {v : Value} {ty : FieldType} {ty0 : Nat → FieldType} {M' : Mem} {G' : Mel} (j : Nat) (hk : IDL o hn id) (he : ob X.1.2.2.2 o hn id (M id) (G id) = .inr (ci, fs)) (he' : ob X.1.2.2.2 o hn id (M' id) (G' id) = .inr (ci, fs.set j v)) (hM : ∀ q, q ≠ id → M' q = M q) (hG : ∀ q, q ≠ id → G' q = G q) (hc : vwCl[ci]? = some (C, T, N)) (hin : ∀ w ∈ u_ws C T N, w ∈ BG) (hty : ∀ k, k < N → parseFieldDescriptor (T k).2.2.1 = some (ty0 k)) (hnm : ∀ a, a < N → ∀ b, b < N → a ≠ b → (T a).2.1 ≠ (T b).2.1) (hj : j < N) (hfl : FL own index (T j).1 (T j).2.1 (T j).2.2.1) (hfin : (T j).2.2.2 = false) (hd : parseFieldDescriptor (T j).2.2.1 = some ty) (hna : narrow ty v = v) (hfit : fits ty v = true) (hlen : j < fs.length) (d : decode cc pc = .ok (.putfield index, 3)) (k : WM X o hn M' G' a b (pc + 3) nL lo st) : WM X o hn M G a b pc nL lo (v :: .ref (o id) :: st) := by
  obtain ⟨⟨l, dC, dI, ac⟩, p, e, R, s, m, args, below, meth, c, Q, A⟩ := X
  obtain ⟨hR, hx, hb, hml, hown, hts, hK, hA, hMF, hrt, hlk, htr⟩ := hX
  intro H locs ls hw hl
  rcases hfl with hfl | ⟨host, hfl⟩
  · refine va_put (ty := ty) hx hb hts hin ty0 hty hnm hown hK hw.1 hw.2.1 hw.2.2 (pl hn id) (wd_at hk he) hc j hj (hts _ hfl) (fun _ h9 => h9) hfin hd hna hfit hlen d (fun H1 locs1 hP hD hS => ?_)
    rw [wd_set hk he' hM hG] at hP hD
    exact k H1 locs1 ls ⟨hP, hD, hS⟩ hl
  · refine va_putN (ty := ty) hx hb hts hin ty0 hty hnm hown hK hw.1 hw.2.1 hw.2.2 (pl hn id) (wd_at hk he) hc j hj (xtra_use rfl (hMF.1 _ hfl rfl)) (fun _ h9 => h9) hfin hd hna hfit hlen d (fun H1 locs1 hP hD hS => ?_)
    rw [wd_set hk he' hM hG] at hP hD
    exact k H1 locs1 ls ⟨hP, hD, hS⟩ hl
theorem q_alen (hX : CxOK X own cc nL fr lc mc ms rt) {id t : Nat} {x : vp_A} {cA : ClassId} {ty : FieldType} (v : Int32) (hk : IDL o hn id) (he : ob X.1.2.2.2 o hn id (M id) (G id) = .inl (cA, x)) (ht : (tysL X.1.2.2.2)[t]? = some (cA, ty)) (hv : Int32.ofNat x.1 = v) (d : decode cc pc = .ok (.arraylength, 1)) (k : WM X o hn M G a b (pc + 1) nL lo (.int v :: st)) : WM X o hn M G a b pc nL lo (.ref (o id) :: st) := by
  obtain ⟨⟨l, dC, dI, ac⟩, p, e, R, s, m, args, below, meth, c, Q, A⟩ := X
  obtain ⟨hR, hx, hb, hml, hown, hts, hK, hA, hMF, hrt, hlk, htr⟩ := hX
  intro H locs ls hw hl
  exact va_alen hx hb hK hw.1 (pl hn id) t (wd_at hk he) ht hv d (k H locs ls hw hl)
theorem q_iald (hX : CxOK X own cc nL fr lc mc ms rt) {id n : Nat} {i : Int32} (hk : IDL o hn id) (he : ob X.1.2.2.2 o hn id (M id) (G id) = .inl (X.1.2.2.2 0, n, .inl (M id))) (hi : vp_in i n) (d : decode cc pc = .ok (.iaload, 1)) (k : WM X o hn M G a b (pc + 1) nL lo (.int (M id i.toNatClampNeg) :: st)) : WM X o hn M G a b pc nL lo (.int i :: .ref (o id) :: st) := by
  obtain ⟨⟨l, dC, dI, ac⟩, p, e, R, s, m, args, below, meth, c, Q, A⟩ := X
  obtain ⟨hR, hx, hb, hml, hown, hts, hK, hA, hMF, hrt, hlk, htr⟩ := hX
  intro H locs ls hw hl
  exact va_iald hx hb hK hw.1 (pl hn id) 0 (wd_at hk he) rfl hi d (k H locs ls hw hl)
theorem q_iast (hX : CxOK X own cc nL fr lc mc ms rt) {id n : Nat} {i x : Int32} (hk : IDL o hn id) (he : ∀ f g, ob X.1.2.2.2 o hn id f g = .inl (X.1.2.2.2 0, n, .inl f)) (hi : vp_in i n) (d : decode cc pc = .ok (.iastore, 1)) (k : WM X o hn (mst M id i.toNatClampNeg x) G a b (pc + 1) nL lo st) : WM X o hn M G a b pc nL lo (.int x :: .int i :: .ref (o id) :: st) := by
  obtain ⟨⟨l, dC, dI, ac⟩, p, e, R, s, m, args, below, meth, c, Q, A⟩ := X
  obtain ⟨hR, hx, hb, hml, hown, hts, hK, hA, hMF, hrt, hlk, htr⟩ := hX
  intro H locs ls hw hl
  refine va_iast hx hb hK hw.1 hw.2.1 hw.2.2 (pl hn id) 0 (wd_at hk (he _ _)) rfl hi d (fun H1 locs1 hP hD hS => ?_)
  rw [wd_set hk (M' := mst M id i.toNatClampNeg x) (G' := G) (by rw [mst_self]; exact he _ _) (fun q hq => mst_ne M _ x hq) (fun _ _ => rfl)] at hP hD
  exact k H1 locs1 ls ⟨hP, hD, hS⟩ hl
theorem q_aald (hX : CxOK X own cc nL fr lc mc ms rt) {i : Int32} (hi : vp_in i 6) (hlt : i.toNatClampNeg < hn) (d : decode cc pc = .ok (.aaload, 1)) (k : WM X o hn M G a b (pc + 1) nL lo (.ref (o (46 + 7 * i.toNatClampNeg)) :: st)) : WM X o hn M G a b pc nL lo (.int i :: .ref (o 29) :: st) := by
  obtain ⟨⟨l, dC, dI, ac⟩, p, e, R, s, m, args, below, meth, c, Q, A⟩ := X
  obtain ⟨hR, hx, hb, hml, hown, hts, hK, hA, hMF, hrt, hlk, htr⟩ := hX
  intro H locs ls hw hl
  refine va_aldq hx hb hK hw.1 (pl hn 29) 1 (wd_at (Or.inl ⟨by omega, by omega⟩) rfl) rfl hi d ?_
  rw [if_pos hlt]
  exact k H locs ls hw hl
end Rows
end
section
/-! contracts over the one world; calls; returns; throws -/
abbrev Rs : Type := Sum (Option Value) String
def EndW (Y : Lx) (A : Nat → Prop) (o : Nat → Nat) (hn : Nat) (M : Mem) (G : Mel) (t : State) : Prop := va_P (Y.2.1, Y.2.2.1) vwCl (Wd Y.2.2.2 o hn M G) t.heap ∧ va_K (Y.2.1, Y.2.2.1) vwCl (tysL Y.2.2.2) t ∧ va_D A (Wd Y.2.2.2 o hn M G)
def QcM (Y : Lx) (A : Nat → Prop) (o : Nat → Nat) (hn : Nat) (M : Mem) (G : Mel) (rs : Rs) : Array Value → State → Outcome → State → Prop := fun _ st oc t => (∃ rv : Option Value, rs = .inl rv ∧ oc = .returned rv) ∧ EndW Y A o hn M G t ∧ va_F A st t
def XcM (Y : Lx) (A : Nat → Prop) (o : Nat → Nat) (hn : Nat) (M : Mem) (G : Mel) (rs : Rs) : String → State → State → Prop := fun E st t => rs = .inr E ∧ EndW Y A o hn M G t ∧ va_F A st t
def PreM (Y : Lx) (o : Nat → Nat) (hn : Nat) (M : Mem) (G : Mel) (sz : Nat) (U : State) : Prop := U.heap.size = sz ∧ va_P (Y.2.1, Y.2.2.1) vwCl (Wd Y.2.2.2 o hn M G) U.heap ∧ va_K (Y.2.1, Y.2.2.1) vwCl (tysL Y.2.2.2) U ∧ va_D (fun _ => True) (Wd Y.2.2.2 o hn M G) ∧ MF (va_A (Wd Y.2.2.2 o hn M G) sz) U U.heap
/-- a method's contract: from the world of M, G with these arguments it comes to rs and the world of M', G' -/
def MI (Y : Lx) (y : MethodName) (bytes : ByteArray) (maxL : Nat) (ret : Option FieldType) (fr lc mc ms : Nat) (av : List Value) (o : Nat → Nat) (hn : Nat) (M : Mem) (G : Mel) (rs : Rs) (M' : Mem) (G' : Mel) : Prop :=
  Y.1.stackTraces = false → ∀ sz : Nat, vx_Met Y.1 y (.code y bytes maxL ret :: BG) { frames := fr, cells := mc, slots := ms, locals := lc } (va_Pc av (PreM Y o hn M G sz)) (QcM Y (va_A (Wd Y.2.2.2 o hn M G) sz) o hn M' G' rs) (XcM Y (va_A (Wd Y.2.2.2 o hn M G) sz) o hn M' G' rs) mc ms (va_A (Wd Y.2.2.2 o hn M G) sz)
def CxR (X : Cx) (mc ms : Nat) (o : Nat → Nat) (hn : Nat) (M : Mem) (G : Mel) (rs : Rs) : Prop :=
  match X with
  | (Y, _, _, _, s, _, args, below, _, _, Q, A) => Q = vx_MQ below (QcM Y A o hn M G rs) (XcM Y A o hn M G rs) args s mc ms A
def CxE (X : Cx) (tb : List ExceptionTableEntry) : Prop :=
  match X with
  | (_, _, _, _, _, _, _, _, _, c, _, _) => c.exceptionTable.toList = tb
theorem PreM.blind (Y : Lx) (av : List Value) (o : Nat → Nat) (hn : Nat) (M : Mem) (G : Mel) (sz : Nat) : FrameBlind (va_Pc av (PreM Y o hn M G sz)) := by
  intro a U g mk q
  obtain ⟨q0, q1, q2, q3, q4, q5⟩ := q
  exact ⟨q0, q1, q2, va_K.moved (u := U) (U := U.calling g mk a) (Vm.Alike.refl U.vm) q3, q4, MF.same (s := U) (U := U.calling g mk a) q5 rfl⟩
theorem va_freeAll {A0 : Nat → Prop} {ws : va_W} {H0 H : Heap} {locs : List Loc} (hD : va_D A0 ws) (hS : va_S A0 H0 H locs) (hA : ∀ q, H0.size ≤ q → A0 q) : ∀ q, va_A ws H.size q → A0 q := by
  intro q h
  rcases h with ⟨k, e, h⟩ | h
  · exact hD.2 k _ h
  · exact hA q (Nat.le_trans hS.1 h)
theorem PreM.at {Y : Lx} {A : Nat → Prop} {o : Nat → Nat} {hn : Nat} {M : Mem} {G : Mel} {s U : State} {H : Heap} {locs : List Loc} (hw : HW Y.2.1 Y.2.2.1 A (Wd Y.2.2.2 o hn M G) s.heap H locs) (hK : va_K (Y.2.1, Y.2.2.1) vwCl (tysL Y.2.2.2) s) (hA : ∀ q : Nat, s.heap.size ≤ q → A q) (hMF : MF A s s.heap) (hU : U.heap = H) (hW : s.WarmedH U.vm) : PreM Y o hn M G H.size U := by
  refine ⟨by rw [hU], by rw [hU]; exact hw.1, hK.moved hW.alike, hw.2.1.weaken (fun _ _ _ _ => trivial), ?_⟩
  rw [hU]
  exact hMF.warm hW (va_freeAll hw.2.1 hw.2.2 hA) hw.2.2.2.1
theorem MI.of {Y : Lx} {y : MethodName} {bytes : ByteArray} {maxL : Nat} {ret : Option FieldType} {fr lc mc ms : Nat} {av : List Value} {o : Nat → Nat} {hn : Nat} {M M' : Mem} {G G' : Mel} {rs : Rs} (hy : plainName y.cls = true) (hlen : (lg_sl av).length ≤ maxL)
    (body : ∀ X : Cx, X.1 = Y → CxOK X y.cls bytes maxL fr lc mc ms ret → CxE X [] → CxR X mc ms o hn M' G' rs → WM X o hn M G 0 0 0 maxL (lv_args 0 av) []) : MI Y y bytes maxL ret fr lc mc ms av o hn M G rs M' G' := by
  intro htr sz
  refine vx_ofW (cc := bytes) (maxL := maxL) (ret := ret) hy rfl ?_
  intro p e s m args below meth c s₁ B hml hno hv
  obtain ⟨rfl, hsz, hP, hK, hD0, hMF⟩ := hv
  subst hsz
  have hts := atoms_spec (ws := .code y bytes maxL ret :: BG) B.pre
  have hne : c.exceptionTable.toList = [] := by
    cases h : c.exceptionTable.toList with
    | nil => rfl
    | cons x xs => exact (hno x (by rw [h]; exact List.mem_cons_self)).elim
  have key := body (Y, p, e, { frames := fr, cells := mc, slots := ms, locals := lc }, s, m, av.toArray, below, meth, c, _, va_A (Wd Y.2.2.2 o hn M G) s.heap.size) rfl ⟨rfl, B.exec, B.bytes, hml, findClass_of_methodNamed B.named, fun w h => hts w (List.mem_cons_of_mem _ h), hK, fun q h => Or.inr h, hMF, B.returns, B.notSynchronized, htr⟩ hne rfl
  rw [lg_entry_eq]
  exact key s.heap [] _ ⟨hP, hD0.self, va_S.rf⟩ (lv_entry av hlen)
section Ends
variable {X : Cx} {own : String} {cc : ByteArray} {nL fr lc mc ms : Nat} {rt : Option FieldType} {o : Nat → Nat} {hn : Nat} {M : Mem} {G : Mel} {a b pc : Nat} {lo : List (Nat × Value)} {st : List Value}
theorem q_widen {k n : Nat} (h1 : a ≤ k) (h2 : b ≤ n) (kk : WM X o hn M G k n pc nL lo st) : WM X o hn M G a b pc nL lo st := by
  obtain ⟨⟨l, dC, dI, ac⟩, p, e, R, s, m, args, below, meth, c, Q, A⟩ := X
  intro H locs ls hw hl
  exact W.widen h1 h2 (kk H locs ls hw hl)
theorem q_iret (hX : CxOK X own cc nL fr lc mc ms (some .int)) {v : Int32} (hR : CxR X mc ms o hn M G (.inl (some (.int v)))) (h1 : a ≤ mc) (h2 : b ≤ ms) (d : decode cc pc = .ok (.ireturn, 1)) : WM X o hn M G a b pc nL lo [.int v] := by
  refine q_widen h1 h2 ?_
  obtain ⟨⟨l, dC, dI, ac⟩, p, e, R, s, m, args, below, meth, c, Q, A⟩ := X
  obtain ⟨hRm, hx, hb, hml, hown, hts, hK, hA, hMF, hrt, hlk, htr⟩ := hX
  cases hR
  intro H locs ls hw hl
  exact vx_ret (W.iret (v := v) hx hb hrt (fun t ht hW => ⟨⟨_, rfl, rfl⟩, ⟨by rw [ht]; exact hw.1, hK.moved hW.alike, hw.2.1⟩, hw.2.2.F ht⟩) hw.2.2.2.2 d hlk)
theorem q_zret (hX : CxOK X own cc nL fr lc mc ms (some .boolean)) {v : Int32} (hv : v = 0 ∨ v = 1) (hR : CxR X mc ms o hn M G (.inl (some (.int v)))) (h1 : a ≤ mc) (h2 : b ≤ ms) (d : decode cc pc = .ok (.ireturn, 1)) : WM X o hn M G a b pc nL lo [.int v] := by
  refine q_widen h1 h2 ?_
  obtain ⟨⟨l, dC, dI, ac⟩, p, e, R, s, m, args, below, meth, c, Q, A⟩ := X
  obtain ⟨hRm, hx, hb, hml, hown, hts, hK, hA, hMF, hrt, hlk, htr⟩ := hX
  cases hR
  intro H locs ls hw hl
  exact vx_ret (W.zret (v := v) (ty := .boolean) hx hb hrt (by rcases hv with rfl | rfl <;> rfl) (fun t ht hW => ⟨⟨_, rfl, rfl⟩, ⟨by rw [ht]; exact hw.1, hK.moved hW.alike, hw.2.1⟩, hw.2.2.F ht⟩) hw.2.2.2.2 d hlk)
theorem q_lret (hX : CxOK X own cc nL fr lc mc ms (some .long)) {v : Int64} (hR : CxR X mc ms o hn M G (.inl (some (.long v)))) (h1 : a ≤ mc) (h2 : b ≤ ms) (d : decode cc pc = .ok (.lreturn, 1)) : WM X o hn M G a b pc nL lo [.long v] := by
  refine q_widen h1 h2 ?_
  obtain ⟨⟨l, dC, dI, ac⟩, p, e, R, s, m, args, below, meth, c, Q, A⟩ := X
  obtain ⟨hRm, hx, hb, hml, hown, hts, hK, hA, hMF, hrt, hlk, htr⟩ := hX
  cases hR
  intro H locs ls hw hl
  exact vx_ret (W.lret (v := v) hx hb hrt (fun t ht hW => ⟨⟨_, rfl, rfl⟩, ⟨by rw [ht]; exact hw.1, hK.moved hW.alike, hw.2.1⟩, hw.2.2.F ht⟩) hw.2.2.2.2 d hlk)
theorem q_aret (hX : CxOK X own cc nL fr lc mc ms (some (.object "Timesheets$Employee"))) {q : Nat} (hR : CxR X mc ms o hn M G (.inl (some (.ref q)))) (h1 : a ≤ mc) (h2 : b ≤ ms) (d : decode cc pc = .ok (.areturn, 1)) : WM X o hn M G a b pc nL lo [.ref q] := by
  refine q_widen h1 h2 ?_
  obtain ⟨⟨l, dC, dI, ac⟩, p, e, R, s, m, args, below, meth, c, Q, A⟩ := X
  obtain ⟨hRm, hx, hb, hml, hown, hts, hK, hA, hMF, hrt, hlk, htr⟩ := hX
  cases hR
  intro H locs ls hw hl
  exact vx_ret (W.aret (v := .ref q) hx hb hrt (Or.inl ⟨_, rfl⟩) (Or.inr ⟨_, rfl⟩) (fun t ht hW => ⟨⟨_, rfl, rfl⟩, ⟨by rw [ht]; exact hw.1, hK.moved hW.alike, hw.2.1⟩, hw.2.2.F ht⟩) hw.2.2.2.2 d hlk)
theorem q_vret (hX : CxOK X own cc nL fr lc mc ms none) (hR : CxR X mc ms o hn M G (.inl none)) (h1 : a ≤ mc) (h2 : b ≤ ms) (d : decode cc pc = .ok (.return_, 1)) : WM X o hn M G a b pc nL lo [] := by
  refine q_widen h1 h2 ?_
  obtain ⟨⟨l, dC, dI, ac⟩, p, e, R, s, m, args, below, meth, c, Q, A⟩ := X
  obtain ⟨hRm, hx, hb, hml, hown, hts, hK, hA, hMF, hrt, hlk, htr⟩ := hX
  cases hR
  intro H locs ls hw hl
  exact vx_ret (W.vret hx hb hrt (fun t ht hW => ⟨⟨_, rfl, rfl⟩, ⟨by rw [ht]; exact hw.1, hK.moved hW.alike, hw.2.1⟩, hw.2.2.F ht⟩) hw.2.2.2.2 d hlk)
end Ends
section Calls
variable {X : Cx} {own : String} {cc : ByteArray} {nL fr lc mc0 ms0 : Nat} {rt : Option FieldType} {o : Nat → Nat} {hn : Nat} {M M' : Mem} {G G' : Mel} {a b pc : Nat} {lo : List (Nat × Value)} {st st' rest : List Value}
variable {y : MethodName} {bytes : ByteArray} {maxL fr' lc' mc ms idx : Nat} {ret : Option FieldType} {As : List Value} {rv : Option Value} {E : String}
/-- the words of a virtual call -/
def VL (own : String) (idx : Nat) (y : MethodName) (bytes : ByteArray) (maxL : Nat) (ret : Option FieldType) : Prop := Cond.methodLink own idx y ∈ BG ∧ Cond.instanceMethod y ∈ BG ∧ Cond.selects y.cls y y ∈ BG ∧ Cond.initialized y.cls ∈ BG ∧ Cond.code y bytes maxL ret ∈ BG ∧ y.cls ≠ "java/lang/invoke/MethodHandle" ∧ y.cls ≠ "java/lang/invoke/VarHandle"
def SL (own : String) (idx : Nat) (y : MethodName) (bytes : ByteArray) (maxL : Nat) (ret : Option FieldType) : Prop := Cond.methodLink own idx y ∈ BG ∧ Cond.static y ∈ BG ∧ Cond.initialized y.cls ∈ BG ∧ Cond.code y bytes maxL ret ∈ BG ∧ y.cls ≠ "java/lang/invoke/MethodHandle" ∧ y.cls ≠ "java/lang/invoke/VarHandle" ∧ y.cls = own
theorem good_code (hc : Cond.code y bytes maxL ret ∈ BG) : GoodIn BG (Cond.code y bytes maxL ret :: BG) := by
  intro w hw
  rcases List.mem_cons.mp hw with rfl | hw
  · exact ⟨hc, BG_good _ hc⟩
  · exact ⟨hw, BG_good _ hw⟩
theorem good_V (h : VL own idx y bytes maxL ret) : GoodIn BG (wsV own idx y.cls y (Cond.code y bytes maxL ret :: BG)) := by
  obtain ⟨h1, h2, h3, h4, h5, -, -⟩ := h
  intro w hw
  rcases List.mem_append.mp hw with hw | hw
  · simp only [List.mem_cons, List.not_mem_nil, or_false] at hw
    rcases hw with rfl | rfl | rfl | rfl
    · exact ⟨h1, BG_good _ h1⟩
    · exact ⟨h2, BG_good _ h2⟩
    · exact ⟨h3, BG_good _ h3⟩
    · exact ⟨h4, BG_good _ h4⟩
  · exact good_code h5 w hw
theorem good_S (h : SL own idx y bytes maxL ret) : GoodIn BG (wsS own idx y (Cond.code y bytes maxL ret :: BG)) := by
  obtain ⟨h1, h2, h3, h5, -, -, h8⟩ := h
  intro w hw
  rcases List.mem_append.mp hw with hw | hw
  · simp only [List.mem_cons, List.not_mem_nil, or_false] at hw
    rcases hw with rfl | rfl | rfl
    · exact ⟨h1, BG_good _ h1⟩
    · exact ⟨h2, BG_good _ h2⟩
    · rw [← h8]; exact ⟨h3, BG_good _ h3⟩
  · exact good_code h5 w hw
/-- behind a call that returned -/
theorem q_ok {Y : Lx} {p : Program} {e : Env} {R : Room} {s : State} {m : MethodId} {args : Array Value} {below : List Frame} {meth : Method} {c : Code} {Q : State → Prop} {A : Nat → Prop} {H : Heap} {locs : List Loc} {ls : Array Slot} {av : Array Value} (hA : ∀ q : Nat, s.heap.size ≤ q → A q) (hw : HW Y.2.1 Y.2.2.1 A (Wd Y.2.2.2 o hn M G) s.heap H locs) (hl : lv_has ls nL lo)
    (hr : vx_Run p Y.1 e R s m args below meth c H locs a b mc ms (F0 m pc ls st) rest (QcM Y (va_A (Wd Y.2.2.2 o hn M G) H.size) o hn M' G' (.inl rv) av) (XcM Y (va_A (Wd Y.2.2.2 o hn M G) H.size) o hn M' G' (.inl rv)) (va_A (Wd Y.2.2.2 o hn M G) H.size)) (hst' : rv.toList ++ rest = st')
    (k : WM (Y, p, e, R, s, m, args, below, meth, c, Q, A) o hn M' G' (a + mc) (b + ms) (pc + 3) nL lo st') : W p Y.1 e R s m args below meth c H locs a b Q (F0 m pc ls st) := by
  have hf := va_freeAll hw.2.1 hw.2.2 hA
  subst hst'
  intro T hT Xs
  rcases hr T hT Xs with ⟨v, st₀, t, T', L, h0, X', hL, e1, e2, ⟨⟨rv', hrs, hoc⟩, hE, hF⟩, go⟩ | ⟨q, st₀, t, T', L, E, ce, h0, X', hL, e1, e2, ⟨hrs, -⟩, -⟩
  · cases hrs
    cases hoc
    obtain ⟨k1, k2, k3⟩ := vx_keep h0 e1 hw.2.2 (fun q _ h => hf q h) hf hL hF
    have hS' : va_S A s.heap T'.heap (locs ++ L) := k3
    obtain ⟨t2, a1, b1⟩ := k T'.heap (locs ++ L) ls ⟨by rw [e1]; exact hE.1, hE.2.2.weaken (fun _ q _ h => hf q.1 h), hS'⟩ hl T' rfl X'
    exact ⟨t2, go t2 a1, b1⟩
  · cases hrs
theorem q_runV (hX : CxOK X own cc nL fr lc mc0 ms0 rt) {ci id n : Nat} {fs : List Value} {vc : vw_C} {rs : Rs} (hm : MI X.1 y bytes maxL ret fr' lc' mc ms (.ref (o id) :: As) o hn M G rs M' G') (hv : VL own idx y bytes maxL ret) (hk : IDL o hn id) (he : ob X.1.2.2.2 o hn id (M id) (G id) = .inr (ci, fs)) (hc : vwCl[ci]? = some vc) (hvc : vc.1 = y.cls)
    (hn' : (parseMethodDescriptor y.desc).map (fun d => d.parameters.length) = some n) (hln : As.length = n) (hroom : fr' + 1 ≤ fr ∧ 8 + (maxL + 11) + lc' ≤ lc) (hcap : a + mc ≤ mc0 ∧ b + ms ≤ ms0) (hst : st = As.reverse ++ .ref (o id) :: rest) (hcat : (rest.map fun v => v.category).sum ≤ 8) (d : decode cc pc = .ok (.invokevirtual idx, 3)) :
    match X with
    | (Y, p, e, R, s, m, args, below, meth, c, Q, A) => ∀ (H : Heap) (locs : List Loc) (ls : Array Slot), HW Y.2.1 Y.2.2.1 A (Wd Y.2.2.2 o hn M G) s.heap H locs → lv_has ls nL lo → vx_Run p Y.1 e R s m args below meth c H locs a b mc ms (F0 m pc ls st) rest (QcM Y (va_A (Wd Y.2.2.2 o hn M G) H.size) o hn M' G' rs (Value.ref (o id) :: As).toArray) (XcM Y (va_A (Wd Y.2.2.2 o hn M G) H.size) o hn M' G' rs) (va_A (Wd Y.2.2.2 o hn M G) H.size) := by
  obtain ⟨⟨l, dC, dI, ac⟩, p, e, R, s, m, args, below, meth, c, Q, A⟩ := X
  obtain ⟨hRm, hx, hb, hml, hown, hts, hK, hA, hMF, hrt, hlk, htr⟩ := hX
  intro H locs ls hw hl
  subst hst
  exact vx_runV (As := As) (b := o id) (rest := rest) ⟨hx, hb, hml, hown, hts⟩ (hm htr H.size) (cwV n hts (good_V hv) rfl rfl rfl ⟨rfl, hv.2.2.2.2.2.1, hv.2.2.2.2.2.2, hn'⟩ (by rw [hRm]; exact hroom)) ⟨PreM.blind _ _ _ _ _ _ _, by rw [← hvc]; exact va_recv hK hw.1 hc (wd_at hk he), fun U hU hW => ⟨rfl, PreM.at (Y := (l, dC, dI, ac)) hw hK hA hMF hU hW⟩⟩ rfl hln hl.1 rfl (lv_room hcat) d (by rw [hRm]; exact hcap)
theorem q_runS (hX : CxOK X own cc nL fr lc mc0 ms0 rt) {n : Nat} {rs : Rs} (hm : MI X.1 y bytes maxL ret fr' lc' mc ms As o hn M G rs M' G') (hv : SL own idx y bytes maxL ret)
    (hn' : (parseMethodDescriptor y.desc).map (fun d => d.parameters.length) = some n) (hln : As.length = n) (hroom : fr' + 1 ≤ fr ∧ 8 + (maxL + 11) + lc' ≤ lc) (hcap : a + mc ≤ mc0 ∧ b + ms ≤ ms0) (hst : st = As.reverse ++ rest) (hcat : (rest.map fun v => v.category).sum ≤ 8) (d : decode cc pc = .ok (.invokestatic idx, 3)) :
    match X with
    | (Y, p, e, R, s, m, args, below, meth, c, Q, A) => ∀ (H : Heap) (locs : List Loc) (ls : Array Slot), HW Y.2.1 Y.2.2.1 A (Wd Y.2.2.2 o hn M G) s.heap H locs → lv_has ls nL lo → vx_Run p Y.1 e R s m args below meth c H locs a b mc ms (F0 m pc ls st) rest (QcM Y (va_A (Wd Y.2.2.2 o hn M G) H.size) o hn M' G' rs As.toArray) (XcM Y (va_A (Wd Y.2.2.2 o hn M G) H.size) o hn M' G' rs) (va_A (Wd Y.2.2.2 o hn M G) H.size) := by
  obtain ⟨⟨l, dC, dI, ac⟩, p, e, R, s, m, args, below, meth, c, Q, A⟩ := X
  obtain ⟨hRm, hx, hb, hml, hown, hts, hK, hA, hMF, hrt, hlk, htr⟩ := hX
  intro H locs ls hw hl
  subst hst
  exact vx_runS (As := As) (rest := rest) ⟨hx, hb, hml, hown, hts⟩ (hm htr H.size) (cwS n hts (good_S hv) rfl rfl rfl ⟨hv.2.2.2.2.2.2, hv.2.2.2.2.1, hv.2.2.2.2.2.1, hn'⟩ (by rw [hRm]; exact hroom)) ⟨PreM.blind _ _ _ _ _ _ _, fun U hU hW => ⟨rfl, PreM.at (Y := (l, dC, dI, ac)) hw hK hA hMF hU hW⟩⟩ rfl hln hl.1 rfl (lv_room hcat) d (by rw [hRm]; exact hcap)
theorem q_callV (hX : CxOK X own cc nL fr lc mc0 ms0 rt) {ci id n : Nat} {fs : List Value} {vc : vw_C} (hm : MI X.1 y bytes maxL ret fr' lc' mc ms (.ref (o id) :: As) o hn M G (.inl rv) M' G') (hv : VL own idx y bytes maxL ret) (hk : IDL o hn id) (he : ob X.1.2.2.2 o hn id (M id) (G id) = .inr (ci, fs)) (hc : vwCl[ci]? = some vc) (hvc : vc.1 = y.cls)
    (hn' : (parseMethodDescriptor y.desc).map (fun d => d.parameters.length) = some n) (hln : As.length = n) (hroom : fr' + 1 ≤ fr ∧ 8 + (maxL + 11) + lc' ≤ lc) (hcap : a + mc ≤ mc0 ∧ b + ms ≤ ms0) (hst : st = As.reverse ++ .ref (o id) :: rest) (hcat : (rest.map fun v => v.category).sum ≤ 8) (hst' : rv.toList ++ rest = st') (d : decode cc pc = .ok (.invokevirtual idx, 3))
    (k : WM X o hn M' G' (a + mc) (b + ms) (pc + 3) nL lo st') : WM X o hn M G a b pc nL lo st := by
  have hr := q_runV hX (lo := lo) hm hv hk he hc hvc hn' hln hroom hcap hst hcat d
  obtain ⟨⟨l, dC, dI, ac⟩, p, e, R, s, m, args, below, meth, c, Q, A⟩ := X
  obtain ⟨hRm, hx, hb, hml, hown, hts, hK, hA, hMF, hrt, hlk, htr⟩ := hX
  intro H locs ls hw hl
  exact q_ok (Y := (l, dC, dI, ac)) hA hw hl (hr H locs ls hw hl) hst' k
theorem q_callS (hX : CxOK X own cc nL fr lc mc0 ms0 rt) {n : Nat} (hm : MI X.1 y bytes maxL ret fr' lc' mc ms As o hn M G (.inl rv) M' G') (hv : SL own idx y bytes maxL ret)
    (hn' : (parseMethodDescriptor y.desc).map (fun d => d.parameters.length) = some n) (hln : As.length = n) (hroom : fr' + 1 ≤ fr ∧ 8 + (maxL + 11) + lc' ≤ lc) (hcap : a + mc ≤ mc0 ∧ b + ms ≤ ms0) (hst : st = As.reverse ++ rest) (hcat : (rest.map fun v => v.category).sum ≤ 8) (hst' : rv.toList ++ rest = st') (d : decode cc pc = .ok (.invokestatic idx, 3))
    (k : WM X o hn M' G' (a + mc) (b + ms) (pc + 3) nL lo st') : WM X o hn M G a b pc nL lo st := by
  have hr := q_runS hX (lo := lo) hm hv hn' hln hroom hcap hst hcat d
  obtain ⟨⟨l, dC, dI, ac⟩, p, e, R, s, m, args, below, meth, c, Q, A⟩ := X
  obtain ⟨hRm, hx, hb, hml, hown, hts, hK, hA, hMF, hrt, hlk, htr⟩ := hX
  intro H locs ls hw hl
  exact q_ok (Y := (l, dC, dI, ac)) hA hw hl (hr H locs ls hw hl) hst' k
/-- a private static method of the nest's host -/
theorem q_callSN (hX : CxOK X own cc nL fr lc mc0 ms0 rt) {n : Nat} {host : String} (hm : MI X.1 y bytes maxL ret fr' lc' mc ms As o hn M G (.inl rv) M' G') (hlk : Cond.methodLinkNest own idx y host ∈ lw_tbl) (hsta : Cond.static y ∈ BG) (hini : Cond.initialized y.cls ∈ BG) (hco : Cond.code y bytes maxL ret ∈ BG) (hcls : y.cls ≠ "java/lang/invoke/MethodHandle" ∧ y.cls ≠ "java/lang/invoke/VarHandle")
    (hn' : (parseMethodDescriptor y.desc).map (fun d => d.parameters.length) = some n) (hln : As.length = n) (hroom : fr' + 1 ≤ fr ∧ 8 + (maxL + 11) + lc' ≤ lc) (hcap : a + mc ≤ mc0 ∧ b + ms ≤ ms0) (hst : st = As.reverse ++ rest) (hcat : (rest.map fun v => v.category).sum ≤ 8) (hst' : rv.toList ++ rest = st') (d : decode cc pc = .ok (.invokestatic idx, 3))
    (k : WM X o hn M' G' (a + mc) (b + ms) (pc + 3) nL lo st') : WM X o hn M G a b pc nL lo st := by
  obtain ⟨⟨l, dC, dI, ac⟩, p, e, R, s, m, args, below, meth, c, Q, A⟩ := X
  obtain ⟨hRm, hx, hb, hml, hown, hts, hK, hA, hMF, hrt, hlk2, htr⟩ := hX
  intro H locs ls hw hl
  subst hst
  have hr : vx_Run p l e R s m args below meth c H locs a b mc ms (F0 m pc ls (As.reverse ++ rest)) rest (QcM (l, dC, dI, ac) (va_A (Wd ac o hn M G) H.size) o hn M' G' (.inl rv) As.toArray) (XcM (l, dC, dI, ac) (va_A (Wd ac o hn M G) H.size) o hn M' G' (.inl rv)) (va_A (Wd ac o hn M G) H.size) := vx_runSN (As := As) (rest := rest) ⟨hx, hb, hml, hown, hts⟩ (hm htr H.size) ⟨va_cnB n hts (good_code hco) rfl rfl rfl (hMF.1 _ hlk rfl) (hts _ hini) ⟨hcls.1, hcls.2, hn'⟩ (by rw [hRm]; exact hroom), hts _ hsta, trivial⟩ ⟨PreM.blind _ _ _ _ _ _ _, fun U hU hW => ⟨rfl, PreM.at (Y := (l, dC, dI, ac)) hw hK hA hMF hU hW⟩⟩ rfl hln hl.1 rfl (lv_room hcat) d (by rw [hRm]; exact hcap)
  exact q_ok (Y := (l, dC, dI, ac)) hA hw hl hr hst' k
end Calls
end
section
/-! words of the meaning of methods, and their rows -/
def bnd {α β : Type} (a : α) (f : α → β) : β := f a
theorem bnd_nm {α β : Type} {e v : α} {f : α → β} {r : β} (hv : v = e) (h : bnd e f = r) : f v = r := by subst hv; exact h
theorem bnd_ob {α β : Type} {e : α} {f : α → β} {r : β} (h : bnd e f = r) : ∃ v, e = v ∧ f v = r := ⟨e, rfl, h⟩
theorem ob_bind {α β : Type} {x : Option α} {f : α → Option β} {r : β} (h : x.bind f = some r) : ∃ v, x = some v ∧ f v = some r := by
  cases x with
  | none => cases h
  | some v => exact ⟨v, rfl, h⟩
def mrd (n : Nat) (f : Nat → Int32) (i : Int32) : Option Int32 := if i < 0 ∨ n ≤ i.toNatClampNeg then none else some (f i.toNatClampNeg)
def mrdL (n : Nat) (f : Nat → Int64) (i : Int32) : Option Int64 := if i < 0 ∨ n ≤ i.toNatClampNeg then none else some (f i.toNatClampNeg)
def mwr (n : Nat) (M : Mem) (k : Nat) (i v : Int32) : Option Mem := if i < 0 ∨ n ≤ i.toNatClampNeg then none else some (mst M k i.toNatClampNeg v)
def mwrL (n : Nat) (G : Mel) (k : Nat) (i : Int32) (v : Int64) : Option Mel := if i < 0 ∨ n ≤ i.toNatClampNeg then none else some (mstL G k i.toNatClampNeg v)
def mrs (hn : Nat) (i : Int32) : Option Nat := if (i < 0 ∨ 6 ≤ i.toNatClampNeg) ∨ hn ≤ i.toNatClampNeg then none else some (46 + 7 * i.toNatClampNeg)
def bchk (v : Int32) : Option Int32 := if v = 0 ∨ v = 1 then some v else none
theorem mrd_ok {n : Nat} {f : Nat → Int32} {i v : Int32} (h : mrd n f i = some v) : vp_in i n ∧ f i.toNatClampNeg = v := by
  unfold mrd at h
  split at h
  · cases h
  · next c => exact ⟨c, Option.some.inj h⟩
theorem mrdL_ok {n : Nat} {f : Nat → Int64} {i : Int32} {v : Int64} (h : mrdL n f i = some v) : vp_in i n ∧ f i.toNatClampNeg = v := by
  unfold mrdL at h
  split at h
  · cases h
  · next c => exact ⟨c, Option.some.inj h⟩
theorem mwr_ok {n : Nat} {M M' : Mem} {k : Nat} {i v : Int32} (h : mwr n M k i v = some M') : vp_in i n ∧ mst M k i.toNatClampNeg v = M' := by
  unfold mwr at h
  split at h
  · cases h
  · next c => exact ⟨c, Option.some.inj h⟩
theorem mwrL_ok {n : Nat} {G G' : Mel} {k : Nat} {i : Int32} {v : Int64} (h : mwrL n G k i v = some G') : vp_in i n ∧ mstL G k i.toNatClampNeg v = G' := by
  unfold mwrL at h
  split at h
  · cases h
  · next c => exact ⟨c, Option.some.inj h⟩
theorem mrs_ok {hn : Nat} {i : Int32} {e : Nat} (h : mrs hn i = some e) : vp_in i 6 ∧ i.toNatClampNeg < hn ∧ 46 + 7 * i.toNatClampNeg = e := by
  unfold mrs at h
  split at h
  · cases h
  · next c =>
    have c1 : ¬ (i < 0 ∨ 6 ≤ i.toNatClampNeg) := fun z => c (Or.inl z)
    have c2 : ¬ hn ≤ i.toNatClampNeg := fun z => c (Or.inr z)
    exact ⟨c1, by omega, Option.some.inj h⟩
theorem mrs_em {hn : Nat} {i : Int32} {e : Nat} (h : mrs hn i = some e) : em hn e := by
  obtain ⟨-, h1, rfl⟩ := mrs_ok h
  exact em_i h1
theorem bchk_ok {v w : Int32} (h : bchk v = some w) : v = w ∧ (w = 0 ∨ w = 1) := by
  unfold bchk at h
  split at h
  · next c => cases h; exact ⟨rfl, c⟩
  · cases h
/-- how many turns a loop is given -/
def FU : Nat := 20000
theorem lt46 {o : Nat → Nat} {k hn : Nat} (h : 28 ≤ k ∧ k < 46) : IDL o hn k := Or.inl (by omega)
theorem tb_28 {hn t : Nat} (h : tb hn t) : 28 ≤ t := by
  rcases h.1 with h | h | h | h | h | h | ⟨h, -⟩ <;> omega
theorem tb_lt {o : Nat → Nat} {t hn : Nat} (h : tb hn t) : IDL o hn t := Or.inl ⟨tb_28 h, Nat.lt_of_succ_lt h.2⟩
theorem tb_lt1 {o : Nat → Nat} {t hn : Nat} (h : tb hn t) : IDL o hn (t + 1) := Or.inl ⟨Nat.le_succ_of_le (tb_28 h), h.2⟩
theorem em_lt {o : Nat → Nat} {t hn : Nat} (h : em hn t) : IDL o hn t := Or.inl ⟨Nat.le_trans (by decide) h.1, h.2.2⟩
theorem ar26 {o : Nat → Nat} {hn : Nat} (h : o 0 = 1) : IDL o hn 26 := Or.inr ⟨Or.inl rfl, h⟩
theorem ar27 {o : Nat → Nat} {hn : Nat} (h : o 0 = 1) : IDL o hn 27 := Or.inr ⟨Or.inr rfl, h⟩
section Rows2
variable {X : Cx} {own : String} {cc : ByteArray} {nL fr lc mc ms : Nat} {rt : Option FieldType} {o : Nat → Nat} {hn : Nat} {M : Mem} {G : Mel} {a b pc : Nat} {lo : List (Nat × Value)} {st : List Value}
theorem q_lo {lo' : List (Nat × Value)} (ks : List Nat) (h : lv_pick lo ks = lo') (k : WM X o hn M G a b pc nL lo' st) : WM X o hn M G a b pc nL lo st := by
  obtain ⟨⟨l, dC, dI, ac⟩, p, e, R, s, m, args, below, meth, c, Q, A⟩ := X
  intro H locs ls hw hl
  exact k H locs ls hw (lv_sub hl ks h)
theorem q_nm {x : Int32} (k : ∀ y : Int32, y = x → WM X o hn M G a b pc nL lo (.int y :: st)) : WM X o hn M G a b pc nL lo (.int x :: st) := k x rfl
theorem q_astore (hX : CxOK X own cc nL fr lc mc ms rt) {i x : Nat} {lo' : List (Nat × Value)} (ks : List Nat) (hn' : i < nL) (hl' : lv_pick ((i, Value.ref x) :: lo.filter (fun q => !(q.1 == i) && !(q.1 + 1 == i && q.2.category == 2))) ks = lo') (d : decode cc pc = .ok (.astore i, 2)) (k : WM X o hn M G a b (pc + 2) nL lo' st) : WM X o hn M G a b pc nL lo (.ref x :: st) := by
  obtain ⟨⟨l, dC, dI, ac⟩, p, e, R, s, m, args, below, meth, c, Q, A⟩ := X
  obtain ⟨hR, hx, hb, hml, hown, hts, hK, hA, hMF, hrt, hlk, htr⟩ := hX
  intro H locs ls hw hl
  exact lv_astore hx hb d hl hn' rfl (fun ls2 hl2 => k H locs ls2 hw (lv_sub hl2 ks hl'))
theorem r_iald (hX : CxOK X own cc nL fr lc mc ms rt) {id n : Nat} {i v : Int32} (hk : IDL o hn id) (he : ∀ f g, ob X.1.2.2.2 o hn id f g = .inl (X.1.2.2.2 0, n, .inl f)) (hW : mrd n (M id) i = some v) (d : decode cc pc = .ok (.iaload, 1)) (k : WM X o hn M G a b (pc + 1) nL lo (.int v :: st)) : WM X o hn M G a b pc nL lo (.int i :: .ref (o id) :: st) := by
  obtain ⟨h1, rfl⟩ := mrd_ok hW
  exact q_iald hX hk (he _ _) h1 d k
theorem r_iast (hX : CxOK X own cc nL fr lc mc ms rt) {id n : Nat} {i x : Int32} {M' : Mem} (hk : IDL o hn id) (he : ∀ f g, ob X.1.2.2.2 o hn id f g = .inl (X.1.2.2.2 0, n, .inl f)) (hW : mwr n M id i x = some M') (d : decode cc pc = .ok (.iastore, 1)) (k : WM X o hn M' G a b (pc + 1) nL lo st) : WM X o hn M G a b pc nL lo (.int x :: .int i :: .ref (o id) :: st) := by
  obtain ⟨h1, rfl⟩ := mwr_ok hW
  exact q_iast hX hk he h1 d k
theorem r_aald (hX : CxOK X own cc nL fr lc mc ms rt) {i : Int32} {e : Nat} (hW : mrs hn i = some e) (d : decode cc pc = .ok (.aaload, 1)) (k : WM X o hn M G a b (pc + 1) nL lo (.ref (o e) :: st)) : WM X o hn M G a b pc nL lo (.int i :: .ref (o 29) :: st) := by
  obtain ⟨h1, h2, rfl⟩ := mrs_ok hW
  exact q_aald hX h1 h2 d k
theorem r_alen (hX : CxOK X own cc nL fr lc mc ms rt) {id n : Nat} (v : Int32) (hk : IDL o hn id) (he : ∀ f g, ob X.1.2.2.2 o hn id f g = .inl (X.1.2.2.2 0, n, .inl f)) (hv : nI n = v) (d : decode cc pc = .ok (.arraylength, 1)) (k : WM X o hn M G a b (pc + 1) nL lo (.int v :: st)) : WM X o hn M G a b pc nL lo (.ref (o id) :: st) := by
  exact q_alen hX (t := 0) (x := (n, .inl (M id))) v hk (he _ _) rfl hv d k
theorem r_alenS (hX : CxOK X own cc nL fr lc mc ms rt) (d : decode cc pc = .ok (.arraylength, 1)) (k : WM X o hn M G a b (pc + 1) nL lo (.int 6 :: st)) : WM X o hn M G a b pc nL lo (.ref (o 29) :: st) := by
  exact q_alen hX (t := 1) (id := 29) (x := (6, .inr (.inr (.inr (.inr (fun j => if j < hn then some (o (46 + 7 * j)) else none)))))) 6 (lt46 (by decide)) rfl rfl rfl d k
theorem r_min (hX : CxOK X own cc nL fr lc mc ms rt) {x y : Int32} {idx : Nat} (hl : Cond.methodLink own idx Lib.Math.min.name ∈ BG) (hs : Cond.static Lib.Math.min.name ∈ BG) (hi : Cond.initialized "java/lang/Math" ∈ BG) (hc : Cond.code Lib.Math.min.name Lib.Math.min.code 2 (some .int) ∈ BG) (h1 : 1 ≤ fr) (h2 : (st.map fun v => v.category).sum + 13 ≤ lc) (h3 : a ≤ mc) (h4 : b ≤ ms) (d : decode cc pc = .ok (.invokestatic idx, 3)) (k : WM X o hn M G a b (pc + 3) nL lo (.int (if y < x then y else x) :: st)) : WM X o hn M G a b pc nL lo (.int y :: .int x :: st) := by
  obtain ⟨⟨l, dC, dI, ac⟩, p, e, R, s, m, args, below, meth, c, Q, A⟩ := X
  obtain ⟨hR, hx, hb, hml, hown, hts, hK, hA, hMF, hrt, hlk, htr⟩ := hX
  intro H locs ls hw hl2
  exact va_mmin hx hb (by rw [hml, hl2.1]) hown (hts _ hl) (hts _ hs) (hts _ hi) (hts _ hc) (by rw [hR]; exact h1) (by rw [hR]; exact h2) (by rw [hR]; exact h3) (by rw [hR]; exact h4) d (k H locs ls hw hl2)
theorem r_max (hX : CxOK X own cc nL fr lc mc ms rt) {x y : Int32} {idx : Nat} (hl : Cond.methodLink own idx Lib.Math.max.name ∈ BG) (hs : Cond.static Lib.Math.max.name ∈ BG) (hi : Cond.initialized "java/lang/Math" ∈ BG) (hc : Cond.code Lib.Math.max.name Lib.Math.max.code 2 (some .int) ∈ BG) (h1 : 1 ≤ fr) (h2 : (st.map fun v => v.category).sum + 13 ≤ lc) (h3 : a ≤ mc) (h4 : b ≤ ms) (d : decode cc pc = .ok (.invokestatic idx, 3)) (k : WM X o hn M G a b (pc + 3) nL lo (.int (if x < y then y else x) :: st)) : WM X o hn M G a b pc nL lo (.int y :: .int x :: st) := by
  obtain ⟨⟨l, dC, dI, ac⟩, p, e, R, s, m, args, below, meth, c, Q, A⟩ := X
  obtain ⟨hR, hx, hb, hml, hown, hts, hK, hA, hMF, hrt, hlk, htr⟩ := hX
  intro H locs ls hw hl2
  exact va_mmax hx hb (by rw [hml, hl2.1]) hown (hts _ hl) (hts _ hs) (hts _ hi) (hts _ hc) (by rw [hR]; exact h1) (by rw [hR]; exact h2) (by rw [hR]; exact h3) (by rw [hR]; exact h4) d (k H locs ls hw hl2)
theorem mst_off {M M1 : Mem} {k j : Nat} {v : Int32} (h : M1 = mst M k j v) : ∀ q, q ≠ k → M1 q = M q := by subst h; exact fun q hq => mst_ne M j v hq
theorem mstL_off {G G1 : Mel} {k j : Nat} {v : Int64} (h : G1 = mstL G k j v) : ∀ q, q ≠ k → G1 q = G q := by subst h; exact fun q hq => mstL_ne G j v hq
theorem mst_on {M M1 : Mem} {k j : Nat} {v : Int32} (h : M1 = mst M k j v) : M1 k = upd (M k) j v := by subst h; exact mst_self M k j v
theorem mstL_on {G G1 : Mel} {k j : Nat} {v : Int64} (h : G1 = mstL G k j v) : G1 k = vp_updL (G k) j v := by subst h; exact mstL_self G k j v
theorem pu_T_rows (hX : CxOK X own cc nL fr lc mc ms rt) {t : Nat} (ht : tb hn t) {index : Nat} {v : Int32} {M1 : Mem} (hM : M1 = mst M t 2 v) (hfl : FL own index (TX4 2).1 (TX4 2).2.1 (TX4 2).2.2.1) (d : decode cc pc = .ok (.putfield index, 3)) (k : WM X o hn M1 G a b (pc + 3) nL lo st) : WM X o hn M G a b pc nL lo (.int v :: .ref (o t) :: st) := by
  have hon := mst_on hM
  refine q_put hX (id := t) (ci := 4) (N := 3) (T := TX4) (C := RX4) (ty := .int) (ty0 := tyX4) 2 (tb_lt ht) (ob_T ht.1 _ _) (by rw [hon]; exact (ob_T ht.1 _ _)) (mst_off hM) (fun _ _ => rfl) rfl in_X4 tyX4_ok nmX4 (by decide) hfl rfl (by decide +kernel) rfl rfl (by show _ < _; simp) d k
theorem pu_E_wage (hX : CxOK X own cc nL fr lc mc ms rt) {t : Nat} (ht : em hn t) {index : Nat} {v : Int32} {M1 : Mem} (hM : M1 = mst M t 0 v) (hfl : FL own index (TX0 0).1 (TX0 0).2.1 (TX0 0).2.2.1) (d : decode cc pc = .ok (.putfield index, 3)) (k : WM X o hn M1 G a b (pc + 3) nL lo st) : WM X o hn M G a b pc nL lo (.int v :: .ref (o t) :: st) := by
  have hon := mst_on hM
  refine q_put hX (id := t) (ci := 0) (N := 6) (T := TX0) (C := RX0) (ty := .int) (ty0 := tyX0) 0 (em_lt ht) (ob_E ht _ _) (by rw [hon]; exact (ob_E ht _ _)) (mst_off hM) (fun _ _ => rfl) rfl in_X0 tyX0_ok nmX0 (by decide) hfl rfl (by decide +kernel) rfl rfl (by show _ < _; simp) d k
theorem pu_E_weeks (hX : CxOK X own cc nL fr lc mc ms rt) {t : Nat} (ht : em hn t) {index : Nat} {v : Int32} {M1 : Mem} (hM : M1 = mst M t 1 v) (hfl : FL own index (TX0 1).1 (TX0 1).2.1 (TX0 1).2.2.1) (d : decode cc pc = .ok (.putfield index, 3)) (k : WM X o hn M1 G a b (pc + 3) nL lo st) : WM X o hn M G a b pc nL lo (.int v :: .ref (o t) :: st) := by
  have hon := mst_on hM
  refine q_put hX (id := t) (ci := 0) (N := 6) (T := TX0) (C := RX0) (ty := .int) (ty0 := tyX0) 1 (em_lt ht) (ob_E ht _ _) (by rw [hon]; exact (ob_E ht _ _)) (mst_off hM) (fun _ _ => rfl) rfl in_X0 tyX0_ok nmX0 (by decide) hfl rfl (by decide +kernel) rfl rfl (by show _ < _; simp) d k
theorem pu_L_cov (hX : CxOK X own cc nL fr lc mc ms rt) {index : Nat} {v : Int32} {M1 : Mem} (hM : M1 = mst M 38 3 v) (hfl : FL own index (TX5 3).1 (TX5 3).2.1 (TX5 3).2.2.1) (d : decode cc pc = .ok (.putfield index, 3)) (k : WM X o hn M1 G a b (pc + 3) nL lo st) : WM X o hn M G a b pc nL lo (.int v :: .ref (o 38) :: st) := by
  have hon := mst_on hM
  refine q_put hX (id := 38) (ci := 5) (N := 4) (T := TX5) (C := RX5) (ty := .int) (ty0 := tyX5) 3 (lt46 (by decide)) rfl (by rw [hon]; exact rfl) (mst_off hM) (fun _ _ => rfl) rfl in_X5 tyX5_ok nmX5 (by decide) hfl rfl (by decide +kernel) rfl rfl (by show _ < _; simp) d k
theorem pu_S_rep (hX : CxOK X own cc nL fr lc mc ms rt) {index : Nat} {v : Int32} {M1 : Mem} (hM : M1 = mst M 43 1 v) (hfl : FL own index (TX3 1).1 (TX3 1).2.1 (TX3 1).2.2.1) (d : decode cc pc = .ok (.putfield index, 3)) (k : WM X o hn M1 G a b (pc + 3) nL lo st) : WM X o hn M G a b pc nL lo (.int v :: .ref (o 43) :: st) := by
  have hon := mst_on hM
  refine q_put hX (id := 43) (ci := 3) (N := 2) (T := TX3) (C := RX3) (ty := .int) (ty0 := tyX3) 1 (lt46 (by decide)) rfl (by rw [hon]; exact rfl) (mst_off hM) (fun _ _ => rfl) rfl in_X3 tyX3_ok nmX3 (by decide) hfl rfl (by decide +kernel) rfl rfl (by show _ < _; simp) d k
theorem pu_E_earn (hX : CxOK X own cc nL fr lc mc ms rt) {t : Nat} (ht : em hn t) {index : Nat} {v : Int64} {G1 : Mel} (hM : G1 = mstL G t 2 v) (hfl : FL own index (TX0 2).1 (TX0 2).2.1 (TX0 2).2.2.1) (d : decode cc pc = .ok (.putfield index, 3)) (k : WM X o hn M G1 a b (pc + 3) nL lo st) : WM X o hn M G a b pc nL lo (.long v :: .ref (o t) :: st) := by
  have hon := mstL_on hM
  refine q_put hX (id := t) (ci := 0) (N := 6) (T := TX0) (C := RX0) (ty := .long) (ty0 := tyX0) 2 (em_lt ht) (ob_E ht _ _) (by rw [hon]; exact (ob_E ht _ _)) (fun _ _ => rfl) (mstL_off hM) rfl in_X0 tyX0_ok nmX0 (by decide) hfl rfl (by decide +kernel) rfl rfl (by show _ < _; simp) d k
end Rows2
end
section
/-! rows of the law's own body -/
theorem lg_cmp_0 (x y : Int64) : lg_cmp x y = 0 ↔ x = y := by
  unfold lg_cmp
  constructor
  · intro h
    split at h
    · cases h
    · split at h
      · assumption
      · cases h
  · intro h
    subst h
    have h1 : ¬ x < x := by simp
    simp [h1]
def ScrOK (X : Cx) (b L : Nat) (xs : Nat → Int32) : Prop :=
  match X with
  | (_, _, _, _, s, _, _, _, _, _, _, A) => va_X b L xs s s.heap ∧ b < s.heap.size ∧ ¬ A b
section LawRows
variable {X : Cx} {own : String} {cc : ByteArray} {nL fr lc mc ms : Nat} {rt : Option FieldType} {o : Nat → Nat} {hn : Nat} {M : Mem} {G : Mel} {a b pc : Nat} {lo : List (Nat × Value)} {st : List Value}
theorem q_lcmp_eq (hX : CxOK X own cc nL fr lc mc ms rt) {x y : Int64} {off : Int} (tgt : Nat) (ht : ((pc + 1 : Nat) : Int) + off = (tgt : Int)) (d1 : decode cc pc = .ok (.lcmp, 1)) (d2 : decode cc (pc + 1) = .ok (.ifCond .eq off, 3)) (kt : x = y → WM X o hn M G a b tgt nL lo st) (kf : ¬ x = y → WM X o hn M G a b (pc + 1 + 3) nL lo st) : WM X o hn M G a b pc nL lo (.long y :: .long x :: st) := by
  have hif : WM X o hn M G a b (pc + 1) nL lo (.int (lg_cmp x y) :: st) := q_if_eq hX tgt ht d2 (fun h => kt ((lg_cmp_0 x y).mp h)) (fun h => kf (fun e => h ((lg_cmp_0 x y).mpr e)))
  obtain ⟨⟨l, dC, dI, ac⟩, p, e, R, s, m, args, below, meth, c, Q, A⟩ := X
  obtain ⟨hR, hx, hb, hml, hown, hts, hK, hA, hMF, hrt, hlk, htr⟩ := hX
  intro H locs ls hw hl
  exact W.lcmp hx hb d1 (hif H locs ls hw hl)
theorem q_lload (hX : CxOK X own cc nL fr lc mc ms rt) {i : Nat} {x : Int64} (j : Nat) (hj : lo[j]? = some (i, .long x)) (d : decode cc pc = .ok (.lload i, 2)) (k : WM X o hn M G a b (pc + 2) nL lo (.long x :: st)) : WM X o hn M G a b pc nL lo st := by
  obtain ⟨⟨l, dC, dI, ac⟩, p, e, R, s, m, args, below, meth, c, Q, A⟩ := X
  obtain ⟨hR, hx, hb, hml, hown, hts, hK, hA, hMF, hrt, hlk, htr⟩ := hX
  intro H locs ls hw hl
  exact lv_lload hx hb d (lv_at hl j hj) (k H locs ls hw hl)
theorem q_lstore (hX : CxOK X own cc nL fr lc mc ms rt) {i : Nat} {x : Int64} {lo' : List (Nat × Value)} (ks : List Nat) (hn' : i + 1 < nL) (hl' : lv_pick ((i, Value.long x) :: lo.filter (fun q => !(q.1 == i) && (!(q.1 == i + 1) && !(q.1 + 1 == i && q.2.category == 2)))) ks = lo') (d : decode cc pc = .ok (.lstore i, 2)) (k : WM X o hn M G a b (pc + 2) nL lo' st) : WM X o hn M G a b pc nL lo (.long x :: st) := by
  obtain ⟨⟨l, dC, dI, ac⟩, p, e, R, s, m, args, below, meth, c, Q, A⟩ := X
  obtain ⟨hR, hx, hb, hml, hown, hts, hK, hA, hMF, hrt, hlk, htr⟩ := hX
  intro H locs ls hw hl
  exact lv_lstore hx hb d hl hn' rfl (fun ls2 hl2 => k H locs ls2 hw (lv_sub hl2 ks hl'))
theorem r_sld (hX : CxOK X own cc nL fr lc mc ms rt) {q L : Nat} {xs : Nat → Int32} (hS : ScrOK X q L xs) {i v : Int32} (hv : xs i.toNatClampNeg = v) (hin : vp_in i L) (d : decode cc pc = .ok (.iaload, 1)) (k : WM X o hn M G a b (pc + 1) nL lo (.int v :: st)) : WM X o hn M G a b pc nL lo (.int i :: .ref q :: st) := by
  obtain ⟨⟨l, dC, dI, ac⟩, p, e, R, s, m, args, below, meth, c, Q, A⟩ := X
  obtain ⟨hR, hx, hb, hml, hown, hts, hK, hA, hMF, hrt, hlk, htr⟩ := hX
  obtain ⟨h1, h2, h3⟩ := hS
  intro H locs ls hw hl
  subst hv
  exact va_sld hx hb h1 h2 h3 hw.2.2 hin d (k H locs ls hw hl)
theorem r_slen (hX : CxOK X own cc nL fr lc mc ms rt) {q L : Nat} {xs : Nat → Int32} (hS : ScrOK X q L xs) (d : decode cc pc = .ok (.arraylength, 1)) (k : WM X o hn M G a b (pc + 1) nL lo (.int (nI L) :: st)) : WM X o hn M G a b pc nL lo (.ref q :: st) := by
  obtain ⟨⟨l, dC, dI, ac⟩, p, e, R, s, m, args, below, meth, c, Q, A⟩ := X
  obtain ⟨hR, hx, hb, hml, hown, hts, hK, hA, hMF, hrt, hlk, htr⟩ := hX
  obtain ⟨h1, h2, h3⟩ := hS
  intro H locs ls hw hl
  exact va_slen hx hb h1 h2 h3 hw.2.2 d (k H locs ls hw hl)
theorem q_lcmp_ne (hX : CxOK X own cc nL fr lc mc ms rt) {x y : Int64} {off : Int} (tgt : Nat) (ht : ((pc + 1 : Nat) : Int) + off = (tgt : Int)) (d1 : decode cc pc = .ok (.lcmp, 1)) (d2 : decode cc (pc + 1) = .ok (.ifCond .ne off, 3)) (kt : ¬ x = y → WM X o hn M G a b tgt nL lo st) (kf : x = y → WM X o hn M G a b (pc + 1 + 3) nL lo st) : WM X o hn M G a b pc nL lo (.long y :: .long x :: st) := by
  have hif : WM X o hn M G a b (pc + 1) nL lo (.int (lg_cmp x y) :: st) := q_if_ne hX tgt ht d2 (fun h => kt (fun e => h ((lg_cmp_0 x y).mpr e))) (fun h => kf ((lg_cmp_0 x y).mp h))
  obtain ⟨⟨l, dC, dI, ac⟩, p, e, R, s, m, args, below, meth, c, Q, A⟩ := X
  obtain ⟨hR, hx, hb, hml, hown, hts, hK, hA, hMF, hrt, hlk, htr⟩ := hX
  intro H locs ls hw hl
  exact W.lcmp hx hb d1 (hif H locs ls hw hl)
theorem q_nmL {x : Int64} (k : ∀ y : Int64, y = x → WM X o hn M G a b pc nL lo (.long y :: st)) : WM X o hn M G a b pc nL lo (.long x :: st) := k x rfl
end LawRows
/-! the law's 'cell': a cell of the script, or a number made of its place -/
def s_L_cell (L : Nat) (xs : Nat → Int32) (k : Int32) : Option Int32 := if k < nI L then (if k < 0 ∨ L ≤ k.toNatClampNeg then none else some (xs k.toNatClampNeg)) else some (7919 * (k + 3) * (k + 11))
def PreK (Y : Lx) (o : Nat → Nat) (hn : Nat) (M : Mem) (G : Mel) (q L : Nat) (xs : Nat → Int32) (sz : Nat) (U : State) : Prop := PreM Y o hn M G sz U ∧ va_X q L xs U U.heap ∧ q < U.heap.size ∧ ¬ va_A (Wd Y.2.2.2 o hn M G) sz q
def MS (Y : Lx) (y : MethodName) (bytes : ByteArray) (maxL : Nat) (ret : Option FieldType) (fr lc : Nat) (av : List Value) (o : Nat → Nat) (hn : Nat) (M : Mem) (G : Mel) (q L : Nat) (xs : Nat → Int32) (rs : Rs) : Prop :=
  Y.1.stackTraces = false → ∀ sz : Nat, vx_Met Y.1 y (.code y bytes maxL ret :: BG) { frames := fr, cells := 0, slots := 0, locals := lc } (va_Pc av (PreK Y o hn M G q L xs sz)) (QcM Y (va_A (Wd Y.2.2.2 o hn M G) sz) o hn M G rs) (XcM Y (va_A (Wd Y.2.2.2 o hn M G) sz) o hn M G rs) 0 0 (va_A (Wd Y.2.2.2 o hn M G) sz)
theorem PreK.blind (Y : Lx) (av : List Value) (o : Nat → Nat) (hn : Nat) (M : Mem) (G : Mel) (q L : Nat) (xs : Nat → Int32) (sz : Nat) : FrameBlind (va_Pc av (PreK Y o hn M G q L xs sz)) := by
  intro a U g mk z
  obtain ⟨q0, q1, q2, q3, q4⟩ := z
  exact ⟨q0, (PreM.blind Y av o hn M G sz a U g mk ⟨q0, q1⟩).2, va_X.moved (u := U) (U := U.calling g mk a) (Vm.Alike.refl U.vm) q2, q3, q4⟩
theorem MS.of {Y : Lx} {y : MethodName} {bytes : ByteArray} {maxL : Nat} {ret : Option FieldType} {fr lc : Nat} {av : List Value} {o : Nat → Nat} {hn : Nat} {M : Mem} {G : Mel} {q L : Nat} {xs : Nat → Int32} {rs : Rs} (hy : plainName y.cls = true) (hlen : (lg_sl av).length ≤ maxL)
    (body : ∀ X : Cx, X.1 = Y → CxOK X y.cls bytes maxL fr lc 0 0 ret → CxR X 0 0 o hn M G rs → ScrOK X q L xs → WM X o hn M G 0 0 0 maxL (lv_args 0 av) []) : MS Y y bytes maxL ret fr lc av o hn M G q L xs rs := by
  intro htr sz
  refine vx_ofW (cc := bytes) (maxL := maxL) (ret := ret) hy rfl ?_
  intro p e s m args below meth c s₁ B hml hno hv
  obtain ⟨rfl, ⟨hsz, hP, hK, hD0, hMF⟩, hSX, hSb, hSA⟩ := hv
  subst hsz
  have hts := atoms_spec (ws := .code y bytes maxL ret :: BG) B.pre
  have key := body (Y, p, e, { frames := fr, cells := 0, slots := 0, locals := lc }, s, m, av.toArray, below, meth, c, _, va_A (Wd Y.2.2.2 o hn M G) s.heap.size) rfl ⟨rfl, B.exec, B.bytes, hml, findClass_of_methodNamed B.named, fun w h => hts w (List.mem_cons_of_mem _ h), hK, fun q h => Or.inr h, hMF, B.returns, B.notSynchronized, htr⟩ rfl ⟨hSX, hSb, hSA⟩
  rw [lg_entry_eq]
  exact key s.heap [] _ ⟨hP, hD0.self, va_S.rf⟩ (lv_entry av hlen)
end
section
/-! links, by name -/
theorem tb_in_1 {w : Cond} (h : w ∈ tables_1_1) : w ∈ lw_tbl := List.mem_append_right _ (List.mem_append_left _ h)
theorem tb_in_2 {w : Cond} (h : w ∈ tables_1_2) : w ∈ lw_tbl := List.mem_append_right _ (List.mem_append_right _ (List.mem_append_left _ h))
theorem tb_in_3 {w : Cond} (h : w ∈ tables_1_3) : w ∈ lw_tbl := List.mem_append_right _ (List.mem_append_right _ (List.mem_append_right _ h))
theorem fn_X1_34 : Cond.fieldLinkNest RX1 34 "Timesheets$Timeline" "stretchList" "LTimesheets$Table;" "Timesheets" ∈ lw_tbl := tb_in_1 (List.mem_of_getElem? (l := tables_1_1) (i := 89) rfl)
theorem fn_X5_34 : Cond.fieldLinkNest RX5 34 "Timesheets$Employee" "punches" "LTimesheets$Table;" "Timesheets" ∈ lw_tbl := tb_in_2 (List.mem_of_getElem? (l := tables_1_2) (i := 1) rfl)
theorem fn_X5_46 : Cond.fieldLinkNest RX5 46 "Timesheets$Shifts" "spans" "LTimesheets$Table;" "Timesheets" ∈ lw_tbl := tb_in_1 (List.mem_of_getElem? (l := tables_1_1) (i := 74) rfl)
theorem fn_X5_53 : Cond.fieldLinkNest RX5 53 "Timesheets$Employee" "entries" "LTimesheets$Table;" "Timesheets" ∈ lw_tbl := tb_in_2 (List.mem_of_getElem? (l := tables_1_2) (i := 4) rfl)
theorem fn_X5_56 : Cond.fieldLinkNest RX5 56 "Timesheets$Employee" "breaks" "LTimesheets$Table;" "Timesheets" ∈ lw_tbl := tb_in_2 (List.mem_of_getElem? (l := tables_1_2) (i := 7) rfl)
theorem fn_X6_33 : Cond.fieldLinkNest RX6 33 "Timesheets$Payroll" "timeline" "LTimesheets$Timeline;" "Timesheets" ∈ lw_tbl := tb_in_1 (List.mem_of_getElem? (l := tables_1_1) (i := 105) rfl)
theorem fn_X6_38 : Cond.fieldLinkNest RX6 38 "Timesheets$Timeline" "shiftList" "LTimesheets$Shifts;" "Timesheets" ∈ lw_tbl := tb_in_1 (List.mem_of_getElem? (l := tables_1_1) (i := 86) rfl)
theorem fn_X6_64 : Cond.fieldLinkNest RX6 64 "Timesheets$Employee" "wage" "I" "Timesheets" ∈ lw_tbl := tb_in_1 (List.mem_of_getElem? (l := tables_1_1) (i := 235) rfl)
theorem fn_X6_67 : Cond.fieldLinkNest RX6 67 "Timesheets$Employee" "punches" "LTimesheets$Table;" "Timesheets" ∈ lw_tbl := tb_in_2 (List.mem_of_getElem? (l := tables_1_2) (i := 2) rfl)
theorem fn_X6_109 : Cond.fieldLinkNest RX6 109 "Timesheets$Employee" "entries" "LTimesheets$Table;" "Timesheets" ∈ lw_tbl := tb_in_2 (List.mem_of_getElem? (l := tables_1_2) (i := 5) rfl)
theorem fn_X6_119 : Cond.fieldLinkNest RX6 119 "Timesheets$Employee" "breaks" "LTimesheets$Table;" "Timesheets" ∈ lw_tbl := tb_in_2 (List.mem_of_getElem? (l := tables_1_2) (i := 8) rfl)
theorem fn_X6_122 : Cond.fieldLinkNest RX6 122 "Timesheets$Premiums" "rows" "LTimesheets$Table;" "Timesheets" ∈ lw_tbl := tb_in_1 (List.mem_of_getElem? (l := tables_1_1) (i := 49) rfl)
theorem fn_X6_139 : Cond.fieldLinkNest RX6 139 "Timesheets$Payroll" "parts" "LTimesheets$Table;" "Timesheets" ∈ lw_tbl := tb_in_1 (List.mem_of_getElem? (l := tables_1_1) (i := 108) rfl)
theorem fn_X6_149 : Cond.fieldLinkNest RX6 149 "Timesheets$Employee" "weeksClosed" "I" "Timesheets" ∈ lw_tbl := tb_in_1 (List.mem_of_getElem? (l := tables_1_1) (i := 237) rfl)
theorem fn_X6_152 : Cond.fieldLinkNest RX6 152 "Timesheets$Employee" "earnings" "J" "Timesheets" ∈ lw_tbl := tb_in_1 (List.mem_of_getElem? (l := tables_1_1) (i := 239) rfl)
theorem fn_X6_161 : Cond.fieldLinkNest RX6 161 "Timesheets$Shifts" "spans" "LTimesheets$Table;" "Timesheets" ∈ lw_tbl := tb_in_1 (List.mem_of_getElem? (l := tables_1_1) (i := 75) rfl)
theorem fn_X6_167 : Cond.fieldLinkNest RX6 167 "Timesheets$Shifts" "repaired" "I" "Timesheets" ∈ lw_tbl := tb_in_1 (List.mem_of_getElem? (l := tables_1_1) (i := 77) rfl)
theorem fn_X6_174 : Cond.fieldLinkNest RX6 174 "Timesheets$Timeline" "coveredTwice" "I" "Timesheets" ∈ lw_tbl := tb_in_1 (List.mem_of_getElem? (l := tables_1_1) (i := 92) rfl)
theorem fn_X6_177 : Cond.fieldLinkNest RX6 177 "Timesheets$Timeline" "stretchList" "LTimesheets$Table;" "Timesheets" ∈ lw_tbl := tb_in_1 (List.mem_of_getElem? (l := tables_1_1) (i := 90) rfl)
theorem vl_L_8 : VL RL 8 yX6_minutes cX6_minutes 5 (some .int) := ⟨kw_158, kw_159, kw_160, kw_2, kw_161, by decide +kernel, by decide +kernel⟩
theorem vl_L_14 : VL RL 14 yX6_quarters cX6_quarters 5 (some .int) := ⟨kw_262, kw_263, kw_264, kw_2, kw_265, by decide +kernel, by decide +kernel⟩
theorem sl_L_17 : SL RL 17 yL_reads cL_reads 4 none := ⟨kw_155, kw_156, kw_73, kw_157, by decide +kernel, by decide +kernel, rfl⟩
theorem sl_L_23 : SL RL 23 yL_weekOf cL_weekOf 10 (some .int) := ⟨kw_275, kw_276, kw_73, kw_277, by decide +kernel, by decide +kernel, rfl⟩
theorem vl_L_27 : VL RL 27 yX6_premiumPay cX6_premiumPay 2 (some .int) := ⟨kw_278, kw_279, kw_280, kw_2, kw_281, by decide +kernel, by decide +kernel⟩
theorem vl_L_31 : VL RL 31 yX6_pay cX6_pay 3 (some .int) := ⟨kw_304, kw_305, kw_306, kw_2, kw_307, by decide +kernel, by decide +kernel⟩
theorem vl_L_34 : VL RL 34 yX6_workedOn cX6_workedOn 4 (some .int) := ⟨kw_312, kw_313, kw_314, kw_2, kw_315, by decide +kernel, by decide +kernel⟩
theorem vl_L_38 : VL RL 38 yX6_shifts cX6_shifts 2 (some .int) := ⟨kw_338, kw_339, kw_340, kw_2, kw_341, by decide +kernel, by decide +kernel⟩
theorem vl_L_41 : VL RL 41 yX6_stretches cX6_stretches 2 (some .int) := ⟨kw_343, kw_344, kw_345, kw_2, kw_346, by decide +kernel, by decide +kernel⟩
theorem vl_L_44 : VL RL 44 yX6_overlap cX6_overlap 2 (some .int) := ⟨kw_347, kw_348, kw_349, kw_2, kw_350, by decide +kernel, by decide +kernel⟩
theorem vl_L_47 : VL RL 47 yX6_longestStretch cX6_longestStretch 2 (some .int) := ⟨kw_351, kw_352, kw_353, kw_2, kw_354, by decide +kernel, by decide +kernel⟩
theorem vl_L_50 : VL RL 50 yX6_repairedShifts cX6_repairedShifts 2 (some .int) := ⟨kw_358, kw_359, kw_360, kw_2, kw_361, by decide +kernel, by decide +kernel⟩
theorem sl_L_54 : SL RL 54 yL_cell cL_cell 2 (some .int) := ⟨kw_71, kw_72, kw_73, kw_74, by decide +kernel, by decide +kernel, rfl⟩
theorem sl_L_58 : SL RL 58 yL_low cL_low 2 (some .int) := ⟨kw_75, kw_76, kw_73, kw_77, by decide +kernel, by decide +kernel, rfl⟩
theorem vl_L_61 : VL RL 61 yX6_hire cX6_hire 3 (some .int) := ⟨kw_79, kw_80, kw_81, kw_2, kw_82, by decide +kernel, by decide +kernel⟩
theorem vl_L_64 : VL RL 64 yX6_addPremium cX6_addPremium 5 (some .int) := ⟨kw_105, kw_106, kw_107, kw_2, kw_108, by decide +kernel, by decide +kernel⟩
theorem vl_L_68 : VL RL 68 yX6_enter cX6_enter 4 (some .int) := ⟨kw_129, kw_130, kw_131, kw_2, kw_132, by decide +kernel, by decide +kernel⟩
theorem vl_L_71 : VL RL 71 yX6_enterBreak cX6_enterBreak 4 (some .int) := ⟨kw_148, kw_149, kw_150, kw_2, kw_151, by decide +kernel, by decide +kernel⟩
theorem sl_L_74 : SL RL 74 yL_isPaid cL_isPaid 14 (some .boolean) := ⟨kw_152, kw_153, kw_73, kw_154, by decide +kernel, by decide +kernel, rfl⟩
theorem vl_L_78 : VL RL 78 yX6_closeWeek cX6_closeWeek 4 (some .int) := ⟨kw_318, kw_319, kw_320, kw_2, kw_321, by decide +kernel, by decide +kernel⟩
theorem vl_L_81 : VL RL 81 yX6_earned cX6_earned 2 (some .long) := ⟨kw_327, kw_328, kw_329, kw_2, kw_330, by decide +kernel, by decide +kernel⟩
theorem vl_L_85 : VL RL 85 yX6_closedWeeks cX6_closedWeeks 2 (some .int) := ⟨kw_331, kw_332, kw_333, kw_2, kw_334, by decide +kernel, by decide +kernel⟩
theorem sl_L_88 : SL RL 88 yL_isEmpty cL_isEmpty 2 (some .boolean) := ⟨kw_335, kw_336, kw_73, kw_337, by decide +kernel, by decide +kernel, rfl⟩
theorem vl_X0_37 : VL RX0 37 yX4_clear cX4_clear 1 none := ⟨kw_326, kw_175, kw_176, kw_29, kw_177, by decide +kernel, by decide +kernel⟩
theorem vl_X1_30 : VL RX1 30 yX5_read cX5_read 2 none := ⟨kw_166, kw_167, kw_168, kw_44, kw_169, by decide +kernel, by decide +kernel⟩
theorem vl_X1_37 : VL RX1 37 yX1_takeOffAutomaticBreaks cX1_takeOffAutomaticBreaks 5 none := ⟨kw_224, kw_225, kw_226, kw_19, kw_227, by decide +kernel, by decide +kernel⟩
theorem vl_X1_41 : VL RX1 41 yX4_clear cX4_clear 1 none := ⟨kw_229, kw_175, kw_176, kw_29, kw_177, by decide +kernel, by decide +kernel⟩
theorem vl_X1_44 : VL RX1 44 yX1_isFull cX1_isFull 3 (some .boolean) := ⟨kw_233, kw_234, kw_235, kw_19, kw_236, by decide +kernel, by decide +kernel⟩
theorem vl_X1_48 : VL RX1 48 yX1_addPartsOfDay cX1_addPartsOfDay 8 none := ⟨kw_242, kw_243, kw_244, kw_19, kw_245, by decide +kernel, by decide +kernel⟩
theorem mn_X1_52 : Cond.methodLinkNest RX1 52 yX6_minutesOnDay "Timesheets" ∈ lw_tbl := tb_in_2 (List.mem_of_getElem? (l := tables_1_2) (i := 163) rfl)
theorem vl_X1_56 : VL RX1 56 yX4_size cX4_size 1 (some .int) := ⟨kw_230, kw_113, kw_114, kw_29, kw_115, by decide +kernel, by decide +kernel⟩
theorem vl_X1_60 : VL RX1 60 yX4_get cX4_get 4 (some .int) := ⟨kw_231, kw_183, kw_184, kw_29, kw_185, by decide +kernel, by decide +kernel⟩
theorem vl_X1_69 : VL RX1 69 yX4_addSpan cX4_addSpan 4 none := ⟨kw_232, kw_143, kw_144, kw_29, kw_145, by decide +kernel, by decide +kernel⟩
theorem vl_X1_75 : VL RX1 75 yX1_addParts cX1_addParts 12 none := ⟨kw_247, kw_248, kw_249, kw_19, kw_250, by decide +kernel, by decide +kernel⟩
theorem sl_X1_79 : SL RX1 79 yX1_untilLimit cX1_untilLimit 3 (some .int) := ⟨kw_251, kw_252, kw_19, kw_253, by decide +kernel, by decide +kernel, rfl⟩
theorem sl_X1_82 : SL RX1 82 yX1_categoryFor cX1_categoryFor 3 (some .int) := ⟨kw_254, kw_255, kw_19, kw_256, by decide +kernel, by decide +kernel, rfl⟩
theorem vl_X1_86 : VL RX1 86 yX4_set cX4_set 5 none := ⟨kw_257, kw_126, kw_127, kw_29, kw_128, by decide +kernel, by decide +kernel⟩
theorem vl_X1_90 : VL RX1 90 yX1_minutesOf cX1_minutesOf 5 (some .int) := ⟨kw_270, kw_259, kw_260, kw_19, kw_261, by decide +kernel, by decide +kernel⟩
theorem vl_X1_93 : VL RX1 93 yX1_quartersOfWeek cX1_quartersOfWeek 4 (some .int) := ⟨kw_271, kw_272, kw_273, kw_19, kw_274, by decide +kernel, by decide +kernel⟩
theorem vl_X2_20 : VL RX2 20 yX4_size cX4_size 1 (some .int) := ⟨kw_120, kw_113, kw_114, kw_29, kw_115, by decide +kernel, by decide +kernel⟩
theorem vl_X2_24 : VL RX2 24 yX4_insert cX4_insert 3 none := ⟨kw_121, kw_122, kw_123, kw_29, kw_124, by decide +kernel, by decide +kernel⟩
theorem vl_X2_28 : VL RX2 28 yX4_set cX4_set 5 none := ⟨kw_125, kw_126, kw_127, kw_29, kw_128, by decide +kernel, by decide +kernel⟩
theorem vl_X2_32 : VL RX2 32 yX4_get cX4_get 4 (some .int) := ⟨kw_286, kw_183, kw_184, kw_29, kw_185, by decide +kernel, by decide +kernel⟩
theorem vl_X2_36 : VL RX2 36 yX2_sumOver cX2_sumOver 8 (some .int) := ⟨kw_287, kw_288, kw_289, kw_15, kw_290, by decide +kernel, by decide +kernel⟩
theorem vl_X2_39 : VL RX2 39 yX2_nextChange cX2_nextChange 6 (some .int) := ⟨kw_292, kw_293, kw_294, kw_15, kw_295, by decide +kernel, by decide +kernel⟩
theorem vl_X2_48 : VL RX2 48 yX2_greatestRate cX2_greatestRate 6 (some .int) := ⟨kw_296, kw_297, kw_298, kw_15, kw_299, by decide +kernel, by decide +kernel⟩
theorem sl_X2_51 : SL RX2 51 yX2_isBetween cX2_isBetween 3 (some .boolean) := ⟨kw_301, kw_302, kw_15, kw_303, by decide +kernel, by decide +kernel, rfl⟩
theorem vl_X3_24 : VL RX3 24 yX4_clear cX4_clear 1 none := ⟨kw_174, kw_175, kw_176, kw_29, kw_177, by decide +kernel, by decide +kernel⟩
theorem vl_X3_27 : VL RX3 27 yX4_size cX4_size 1 (some .int) := ⟨kw_178, kw_113, kw_114, kw_29, kw_115, by decide +kernel, by decide +kernel⟩
theorem sl_X3_31 : SL RX3 31 yX3_isIn cX3_isIn 2 (some .boolean) := ⟨kw_179, kw_180, kw_55, kw_181, by decide +kernel, by decide +kernel, rfl⟩
theorem vl_X3_35 : VL RX3 35 yX3_addFromIn cX3_addFromIn 6 none := ⟨kw_186, kw_187, kw_188, kw_55, kw_189, by decide +kernel, by decide +kernel⟩
theorem vl_X3_39 : VL RX3 39 yX3_addFromLoneOut cX3_addFromLoneOut 5 none := ⟨kw_195, kw_196, kw_197, kw_55, kw_198, by decide +kernel, by decide +kernel⟩
theorem vl_X3_42 : VL RX3 42 yX4_get cX4_get 4 (some .int) := ⟨kw_182, kw_183, kw_184, kw_29, kw_185, by decide +kernel, by decide +kernel⟩
theorem vl_X3_51 : VL RX3 51 yX4_addSpan cX4_addSpan 4 none := ⟨kw_194, kw_143, kw_144, kw_29, kw_145, by decide +kernel, by decide +kernel⟩
theorem vl_X4_22 : VL RX4 22 yX4_insert cX4_insert 3 none := ⟨kw_146, kw_122, kw_123, kw_29, kw_124, by decide +kernel, by decide +kernel⟩
theorem vl_X4_26 : VL RX4 26 yX4_set cX4_set 5 none := ⟨kw_147, kw_126, kw_127, kw_29, kw_128, by decide +kernel, by decide +kernel⟩
theorem vl_X5_39 : VL RX5 39 yX3_read cX3_read 3 none := ⟨kw_170, kw_171, kw_172, kw_55, kw_173, by decide +kernel, by decide +kernel⟩
theorem vl_X5_43 : VL RX5 43 yX4_clear cX4_clear 1 none := ⟨kw_202, kw_175, kw_176, kw_29, kw_177, by decide +kernel, by decide +kernel⟩
theorem vl_X5_49 : VL RX5 49 yX5_addEvents cX5_addEvents 5 none := ⟨kw_203, kw_204, kw_205, kw_44, kw_206, by decide +kernel, by decide +kernel⟩
theorem vl_X5_59 : VL RX5 59 yX5_goThroughEvents cX5_goThroughEvents 6 none := ⟨kw_215, kw_216, kw_217, kw_44, kw_218, by decide +kernel, by decide +kernel⟩
theorem vl_X5_62 : VL RX5 62 yX4_size cX4_size 1 (some .int) := ⟨kw_207, kw_113, kw_114, kw_29, kw_115, by decide +kernel, by decide +kernel⟩
theorem vl_X5_66 : VL RX5 66 yX4_get cX4_get 4 (some .int) := ⟨kw_208, kw_183, kw_184, kw_29, kw_185, by decide +kernel, by decide +kernel⟩
theorem vl_X5_70 : VL RX5 70 yX5_addEvent cX5_addEvent 6 none := ⟨kw_209, kw_210, kw_211, kw_44, kw_212, by decide +kernel, by decide +kernel⟩
theorem vl_X5_74 : VL RX5 74 yX4_insert cX4_insert 3 none := ⟨kw_213, kw_122, kw_123, kw_29, kw_124, by decide +kernel, by decide +kernel⟩
theorem vl_X5_78 : VL RX5 78 yX4_set cX4_set 5 none := ⟨kw_214, kw_126, kw_127, kw_29, kw_128, by decide +kernel, by decide +kernel⟩
theorem vl_X5_81 : VL RX5 81 yX5_addWorked cX5_addWorked 4 none := ⟨kw_219, kw_220, kw_221, kw_44, kw_222, by decide +kernel, by decide +kernel⟩
theorem vl_X5_84 : VL RX5 84 yX4_addSpan cX4_addSpan 4 none := ⟨kw_223, kw_143, kw_144, kw_29, kw_145, by decide +kernel, by decide +kernel⟩
theorem sl_X6_46 : SL RX6 46 yX6_requireWithin cX6_requireWithin 3 none := ⟨kw_88, kw_89, kw_2, kw_90, by decide +kernel, by decide +kernel, rfl⟩
theorem vl_X6_60 : VL RX6 60 yX6_find cX6_find 3 (some (.object "Timesheets$Employee")) := ⟨kw_133, kw_134, kw_135, kw_2, kw_136, by decide +kernel, by decide +kernel⟩
theorem sl_X6_71 : SL RX6 71 yX6_requireRoom cX6_requireRoom 2 none := ⟨kw_109, kw_110, kw_2, kw_111, by decide +kernel, by decide +kernel, rfl⟩
theorem vl_X6_93 : VL RX6 93 yX4_size cX4_size 1 (some .int) := ⟨kw_112, kw_113, kw_114, kw_29, kw_115, by decide +kernel, by decide +kernel⟩
theorem vl_X6_102 : VL RX6 102 yX4_get cX4_get 4 (some .int) := ⟨kw_241, kw_183, kw_184, kw_29, kw_185, by decide +kernel, by decide +kernel⟩
theorem sl_X6_112 : SL RX6 112 yX6_addByHand cX6_addByHand 4 (some .int) := ⟨kw_139, kw_140, kw_2, kw_141, by decide +kernel, by decide +kernel, rfl⟩
theorem vl_X6_125 : VL RX6 125 yX2_add cX2_add 6 (some .int) := ⟨kw_116, kw_117, kw_118, kw_15, kw_119, by decide +kernel, by decide +kernel⟩
theorem vl_X6_131 : VL RX6 131 yX1_read cX1_read 5 none := ⟨kw_162, kw_163, kw_164, kw_19, kw_165, by decide +kernel, by decide +kernel⟩
theorem vl_X6_135 : VL RX6 135 yX1_basicPay cX1_basicPay 3 (some .int) := ⟨kw_308, kw_309, kw_310, kw_19, kw_311, by decide +kernel, by decide +kernel⟩
theorem vl_X6_142 : VL RX6 142 yX2_payFor cX2_payFor 4 (some .int) := ⟨kw_282, kw_283, kw_284, kw_15, kw_285, by decide +kernel, by decide +kernel⟩
theorem vl_X6_146 : VL RX6 146 yX0_beginNextWeek cX0_beginNextWeek 2 none := ⟨kw_322, kw_323, kw_324, kw_87, kw_325, by decide +kernel, by decide +kernel⟩
theorem vl_X6_156 : VL RX6 156 yX3_read cX3_read 3 none := ⟨kw_342, kw_171, kw_172, kw_55, kw_173, by decide +kernel, by decide +kernel⟩
theorem vl_X6_173 : VL RX6 173 yX5_read cX5_read 2 none := ⟨kw_316, kw_167, kw_168, kw_44, kw_169, by decide +kernel, by decide +kernel⟩
theorem sl_X6_180 : SL RX6 180 yX6_minutesOnDay cX6_minutesOnDay 6 (some .int) := ⟨kw_317, kw_237, kw_2, kw_238, by decide +kernel, by decide +kernel, rfl⟩
theorem sl_X6_183 : SL RX6 183 yX6_longest cX6_longest 3 (some .int) := ⟨kw_355, kw_356, kw_2, kw_357, by decide +kernel, by decide +kernel, rfl⟩
theorem vl_X6_189 : VL RX6 189 yX1_minutesOf cX1_minutesOf 5 (some .int) := ⟨kw_258, kw_259, kw_260, kw_19, kw_261, by decide +kernel, by decide +kernel⟩
theorem vl_X6_192 : VL RX6 192 yX1_quartersOf cX1_quartersOf 9 (some .int) := ⟨kw_266, kw_267, kw_268, kw_19, kw_269, by decide +kernel, by decide +kernel⟩
theorem vl_X6_209 : VL RX6 209 yX4_addSpan cX4_addSpan 4 none := ⟨kw_142, kw_143, kw_144, kw_29, kw_145, by decide +kernel, by decide +kernel⟩
theorem pd_yL_cell : (parseMethodDescriptor yL_cell.desc).map (fun d => d.parameters.length) = some 2 := by decide +kernel
theorem pd_yL_isEmpty : (parseMethodDescriptor yL_isEmpty.desc).map (fun d => d.parameters.length) = some 2 := by decide +kernel
theorem pd_yL_isPaid : (parseMethodDescriptor yL_isPaid.desc).map (fun d => d.parameters.length) = some 5 := by decide +kernel
theorem pd_yL_low : (parseMethodDescriptor yL_low.desc).map (fun d => d.parameters.length) = some 2 := by decide +kernel
theorem pd_yL_reads : (parseMethodDescriptor yL_reads.desc).map (fun d => d.parameters.length) = some 3 := by decide +kernel
theorem pd_yL_weekOf : (parseMethodDescriptor yL_weekOf.desc).map (fun d => d.parameters.length) = some 3 := by decide +kernel
theorem pd_yX0_beginNextWeek : (parseMethodDescriptor yX0_beginNextWeek.desc).map (fun d => d.parameters.length) = some 1 := by decide +kernel
theorem pd_yX1_addParts : (parseMethodDescriptor yX1_addParts.desc).map (fun d => d.parameters.length) = some 5 := by decide +kernel
theorem pd_yX1_addPartsOfDay : (parseMethodDescriptor yX1_addPartsOfDay.desc).map (fun d => d.parameters.length) = some 3 := by decide +kernel
theorem pd_yX1_basicPay : (parseMethodDescriptor yX1_basicPay.desc).map (fun d => d.parameters.length) = some 1 := by decide +kernel
theorem pd_yX1_categoryFor : (parseMethodDescriptor yX1_categoryFor.desc).map (fun d => d.parameters.length) = some 3 := by decide +kernel
theorem pd_yX1_isFull : (parseMethodDescriptor yX1_isFull.desc).map (fun d => d.parameters.length) = some 0 := by decide +kernel
theorem pd_yX1_minutesOf : (parseMethodDescriptor yX1_minutesOf.desc).map (fun d => d.parameters.length) = some 2 := by decide +kernel
theorem pd_yX1_quartersOf : (parseMethodDescriptor yX1_quartersOf.desc).map (fun d => d.parameters.length) = some 2 := by decide +kernel
theorem pd_yX1_quartersOfWeek : (parseMethodDescriptor yX1_quartersOfWeek.desc).map (fun d => d.parameters.length) = some 1 := by decide +kernel
theorem pd_yX1_read : (parseMethodDescriptor yX1_read.desc).map (fun d => d.parameters.length) = some 1 := by decide +kernel
theorem pd_yX1_takeOffAutomaticBreaks : (parseMethodDescriptor yX1_takeOffAutomaticBreaks.desc).map (fun d => d.parameters.length) = some 1 := by decide +kernel
theorem pd_yX1_untilLimit : (parseMethodDescriptor yX1_untilLimit.desc).map (fun d => d.parameters.length) = some 2 := by decide +kernel
theorem pd_yX2_add : (parseMethodDescriptor yX2_add.desc).map (fun d => d.parameters.length) = some 4 := by decide +kernel
theorem pd_yX2_greatestRate : (parseMethodDescriptor yX2_greatestRate.desc).map (fun d => d.parameters.length) = some 2 := by decide +kernel
theorem pd_yX2_isBetween : (parseMethodDescriptor yX2_isBetween.desc).map (fun d => d.parameters.length) = some 3 := by decide +kernel
theorem pd_yX2_nextChange : (parseMethodDescriptor yX2_nextChange.desc).map (fun d => d.parameters.length) = some 1 := by decide +kernel
theorem pd_yX2_payFor : (parseMethodDescriptor yX2_payFor.desc).map (fun d => d.parameters.length) = some 1 := by decide +kernel
theorem pd_yX2_sumOver : (parseMethodDescriptor yX2_sumOver.desc).map (fun d => d.parameters.length) = some 2 := by decide +kernel
theorem pd_yX3_addFromIn : (parseMethodDescriptor yX3_addFromIn.desc).map (fun d => d.parameters.length) = some 2 := by decide +kernel
theorem pd_yX3_addFromLoneOut : (parseMethodDescriptor yX3_addFromLoneOut.desc).map (fun d => d.parameters.length) = some 2 := by decide +kernel
theorem pd_yX3_isIn : (parseMethodDescriptor yX3_isIn.desc).map (fun d => d.parameters.length) = some 2 := by decide +kernel
theorem pd_yX3_read : (parseMethodDescriptor yX3_read.desc).map (fun d => d.parameters.length) = some 1 := by decide +kernel
theorem pd_yX4_addSpan : (parseMethodDescriptor yX4_addSpan.desc).map (fun d => d.parameters.length) = some 2 := by decide +kernel
theorem pd_yX4_clear : (parseMethodDescriptor yX4_clear.desc).map (fun d => d.parameters.length) = some 0 := by decide +kernel
theorem pd_yX4_get : (parseMethodDescriptor yX4_get.desc).map (fun d => d.parameters.length) = some 2 := by decide +kernel
theorem pd_yX4_insert : (parseMethodDescriptor yX4_insert.desc).map (fun d => d.parameters.length) = some 1 := by decide +kernel
theorem pd_yX4_set : (parseMethodDescriptor yX4_set.desc).map (fun d => d.parameters.length) = some 3 := by decide +kernel
theorem pd_yX4_size : (parseMethodDescriptor yX4_size.desc).map (fun d => d.parameters.length) = some 0 := by decide +kernel
theorem pd_yX5_addEvent : (parseMethodDescriptor yX5_addEvent.desc).map (fun d => d.parameters.length) = some 3 := by decide +kernel
theorem pd_yX5_addEvents : (parseMethodDescriptor yX5_addEvents.desc).map (fun d => d.parameters.length) = some 3 := by decide +kernel
theorem pd_yX5_addWorked : (parseMethodDescriptor yX5_addWorked.desc).map (fun d => d.parameters.length) = some 2 := by decide +kernel
theorem pd_yX5_goThroughEvents : (parseMethodDescriptor yX5_goThroughEvents.desc).map (fun d => d.parameters.length) = some 0 := by decide +kernel
theorem pd_yX5_read : (parseMethodDescriptor yX5_read.desc).map (fun d => d.parameters.length) = some 1 := by decide +kernel
theorem pd_yX6_addByHand : (parseMethodDescriptor yX6_addByHand.desc).map (fun d => d.parameters.length) = some 4 := by decide +kernel
theorem pd_yX6_addPremium : (parseMethodDescriptor yX6_addPremium.desc).map (fun d => d.parameters.length) = some 4 := by decide +kernel
theorem pd_yX6_closeWeek : (parseMethodDescriptor yX6_closeWeek.desc).map (fun d => d.parameters.length) = some 1 := by decide +kernel
theorem pd_yX6_closedWeeks : (parseMethodDescriptor yX6_closedWeeks.desc).map (fun d => d.parameters.length) = some 1 := by decide +kernel
theorem pd_yX6_earned : (parseMethodDescriptor yX6_earned.desc).map (fun d => d.parameters.length) = some 1 := by decide +kernel
theorem pd_yX6_enter : (parseMethodDescriptor yX6_enter.desc).map (fun d => d.parameters.length) = some 3 := by decide +kernel
theorem pd_yX6_enterBreak : (parseMethodDescriptor yX6_enterBreak.desc).map (fun d => d.parameters.length) = some 3 := by decide +kernel
theorem pd_yX6_find : (parseMethodDescriptor yX6_find.desc).map (fun d => d.parameters.length) = some 1 := by decide +kernel
theorem pd_yX6_hire : (parseMethodDescriptor yX6_hire.desc).map (fun d => d.parameters.length) = some 1 := by decide +kernel
theorem pd_yX6_longest : (parseMethodDescriptor yX6_longest.desc).map (fun d => d.parameters.length) = some 1 := by decide +kernel
theorem pd_yX6_longestStretch : (parseMethodDescriptor yX6_longestStretch.desc).map (fun d => d.parameters.length) = some 1 := by decide +kernel
theorem pd_yX6_minutes : (parseMethodDescriptor yX6_minutes.desc).map (fun d => d.parameters.length) = some 3 := by decide +kernel
theorem pd_yX6_minutesOnDay : (parseMethodDescriptor yX6_minutesOnDay.desc).map (fun d => d.parameters.length) = some 2 := by decide +kernel
theorem pd_yX6_overlap : (parseMethodDescriptor yX6_overlap.desc).map (fun d => d.parameters.length) = some 1 := by decide +kernel
theorem pd_yX6_pay : (parseMethodDescriptor yX6_pay.desc).map (fun d => d.parameters.length) = some 1 := by decide +kernel
theorem pd_yX6_premiumPay : (parseMethodDescriptor yX6_premiumPay.desc).map (fun d => d.parameters.length) = some 1 := by decide +kernel
theorem pd_yX6_quarters : (parseMethodDescriptor yX6_quarters.desc).map (fun d => d.parameters.length) = some 3 := by decide +kernel
theorem pd_yX6_repairedShifts : (parseMethodDescriptor yX6_repairedShifts.desc).map (fun d => d.parameters.length) = some 1 := by decide +kernel
theorem pd_yX6_requireRoom : (parseMethodDescriptor yX6_requireRoom.desc).map (fun d => d.parameters.length) = some 2 := by decide +kernel
theorem pd_yX6_requireWithin : (parseMethodDescriptor yX6_requireWithin.desc).map (fun d => d.parameters.length) = some 3 := by decide +kernel
theorem pd_yX6_shifts : (parseMethodDescriptor yX6_shifts.desc).map (fun d => d.parameters.length) = some 1 := by decide +kernel
theorem pd_yX6_stretches : (parseMethodDescriptor yX6_stretches.desc).map (fun d => d.parameters.length) = some 1 := by decide +kernel
theorem pd_yX6_workedOn : (parseMethodDescriptor yX6_workedOn.desc).map (fun d => d.parameters.length) = some 2 := by decide +kernel
end
section
/-! the meanings of the methods, printed by program -/
theorem thr_z {α : Type} {x : Option (Nat × α)} {r : Nat × α} (h : x = some r) (hk : r.1 = 0) : x = some (0, r.2) := by rw [h, ← hk]
theorem thr_y {x : Option Nat} {r : Nat} (h : x = some r) (hk : r = 0) : x = some 0 := by rw [h, hk]
def s_X4_size (M : Mem) (t : Nat) : Option (Int32) :=
  some (M t 2)

def L_X4_insert_46 (t : Nat) (x1 : Int32) : Nat → Int32 → Mem → Option (Int32 × Mem)
  | 0, _, _ => none
  | f + 1, y2, M3 =>
    if y2 < ((x1 + 1) * (tw t)) then
      some (y2, M3)
    else
      (mrd (tl t) (M3 (t + 1)) (y2 - (tw t))).bind fun v4 =>
      (mwr (tl t) M3 (t + 1) y2 v4).bind fun M5 =>
      bnd (y2 + (-1)) fun z6 : Int32 =>
      L_X4_insert_46 t x1 f z6 M5

def s_X4_insert (M : Mem) (t : Nat) (x1 : Int32) : Option (Mem) :=
  if x1 < 0 then
    some M
  else
    if (M t 2) < x1 then
      some M
    else
      if (((M t 2) + 1) * (tw t)) ≤ (nI (tl t)) then
        bnd ((((M t 2) + 1) * (tw t)) - 1) fun z1 : Int32 =>
        (L_X4_insert_46 t x1 FU z1 M).bind fun p7 =>
        bnd (mst p7.2 t 2 ((p7.2 t 2) + 1)) fun M8 : Mem =>
        some M8
      else
        some M

def s_X4_set (M : Mem) (t : Nat) (x1 : Int32) (x2 : Int32) (x3 : Int32) : Option (Mem) :=
  if x1 < 0 then
    some M
  else
    if (M t 2) ≤ x1 then
      some M
    else
      if x2 < 0 then
        some M
      else
        if x2 < (tw t) then
          bnd ((x1 * (tw t)) + x2) fun z1 : Int32 =>
          if z1 < 0 then
            some M
          else
            if (nI (tl t)) ≤ z1 then
              some M
            else
              (mwr (tl t) M (t + 1) z1 x3).bind fun M2 =>
              some M2
        else
          some M

def s_X4_addSpan (M : Mem) (t : Nat) (x1 : Int32) (x2 : Int32) : Option (Mem) :=
  bnd (M t 2) fun z1 : Int32 =>
  (s_X4_insert M t z1).bind fun r2 =>
  (s_X4_set r2 t z1 0 x1).bind fun r3 =>
  (s_X4_set r3 t z1 1 x2).bind fun r4 =>
  some r4

def s_X4_clear (M : Mem) (t : Nat) : Option (Mem) :=
  bnd (mst M t 2 0) fun M1 : Mem =>
  some M1

def s_X4_get (M : Mem) (t : Nat) (x1 : Int32) (x2 : Int32) : Option (Int32) :=
  if x1 < 0 then
    some 0
  else
    if (M t 2) ≤ x1 then
      some 0
    else
      if x2 < 0 then
        some 0
      else
        if x2 < (tw t) then
          bnd ((x1 * (tw t)) + x2) fun z1 : Int32 =>
          if z1 < 0 then
            some 0
          else
            if (nI (tl t)) ≤ z1 then
              some 0
            else
              (mrd (tl t) (M (t + 1)) z1).bind fun v2 =>
              some v2
        else
          some 0

def s_X0_beginNextWeek (M : Mem) (G : Mel) (e : Nat) (x1 : Int32) : Option (Mem × Mel) :=
  bnd (mstL G e 2 ((G e 2) + x1.toInt64)) fun G1 : Mel =>
  bnd (mst M e 1 ((M e 1) + 1)) fun M2 : Mem =>
  (s_X4_clear M2 (e + 1)).bind fun r3 =>
  (s_X4_clear r3 (e + 3)).bind fun r4 =>
  (s_X4_clear r4 (e + 5)).bind fun r5 =>
  some (r5, G1)

def s_X3_isIn (M : Mem) (t0 : Nat) (x1 : Int32) : Option (Int32) :=
  (s_X4_get M t0 x1 1).bind fun r1 =>
  if r1 = 1 then
    some 1
  else
    some 0

def s_X3_addFromIn (M : Mem) (t1 : Nat) (x2 : Int32) : Option (Mem) :=
  (s_X4_get M t1 x2 0).bind fun r1 =>
  (s_X4_size M t1).bind fun r2 =>
  bnd (α := Int32) (
    if (x2 + 1) < r2 then
      0
    else
      1) fun p4 =>
  Option.bind (α := Int32) (
    if p4 = 0 then
      (s_X4_get M t1 (x2 + 1) 0).bind fun r6 =>
      some r6
    else
      some 10080) fun p7 =>
  if p4 = 0 then
    (s_X3_isIn M t1 (x2 + 1)).bind fun r10 =>
    if r10 = 0 then
      (s_X4_addSpan M 44 r1 p7).bind fun r11 =>
      some r11
    else
      bnd (mst M 43 1 ((M 43 1) + 1)) fun M12 : Mem =>
      (s_X4_addSpan M12 44 r1 (if p7 < r1 + 480 then p7 else r1 + 480)).bind fun r13 =>
      some r13
  else
    bnd (mst M 43 1 ((M 43 1) + 1)) fun M8 : Mem =>
    (s_X4_addSpan M8 44 r1 (if p7 < r1 + 480 then p7 else r1 + 480)).bind fun r9 =>
    some r9

def s_X3_addFromLoneOut (M : Mem) (t1 : Nat) (x2 : Int32) : Option (Mem) :=
  (s_X4_get M t1 x2 0).bind fun r1 =>
  Option.bind (α := Int32) (
    if x2 = 0 then
      some 0
    else
      (s_X4_get M t1 (x2 - 1) 0).bind fun r3 =>
      some r3) fun p4 =>
  bnd (mst M 43 1 ((M 43 1) + 1)) fun M5 : Mem =>
  (s_X4_addSpan M5 44 (if r1 - 480 < p4 then p4 else r1 - 480) r1).bind fun r6 =>
  some r6

def L_X3_read_14 (t1 : Nat) : Nat → Int32 → Mem → Option (Int32 × Mem)
  | 0, _, _ => none
  | f + 1, y3, M4 =>
    (s_X4_size M4 t1).bind fun r5 =>
    if r5 ≤ y3 then
      some (y3, M4)
    else
      (s_X3_isIn M4 t1 y3).bind fun r6 =>
      Option.bind (α := Mem) (
        if r6 = 0 then
          (s_X3_isIn M4 t1 (y3 - 1)).bind fun r8 =>
          if r8 = 0 then
            (s_X3_addFromLoneOut M4 t1 y3).bind fun r9 =>
            some r9
          else
            some M4
        else
          (s_X3_addFromIn M4 t1 y3).bind fun r10 =>
          some r10) fun p11 =>
      bnd (y3 + 1) fun z12 : Int32 =>
      L_X3_read_14 t1 f z12 p11

def s_X3_read (M : Mem) (t1 : Nat) : Option (Mem) :=
  (s_X4_clear M 44).bind fun r1 =>
  bnd (mst r1 43 1 0) fun M2 : Mem =>
  (L_X3_read_14 t1 FU 0 M2).bind fun p13 =>
  some p13.2

def L_X5_addEvent_15 (M : Mem) (x1 : Int32) : Nat → Int32 → Int32 → Option (Int32 × Int32)
  | 0, _, _ => none
  | f + 1, y3, y4 =>
    if y4 < 0 then
      some (y3, y4)
    else
      (s_X4_get M 39 y4 0).bind fun r5 =>
      if r5 ≤ x1 then
        some (y3, y4)
      else
        bnd (y4 + (-1)) fun z6 : Int32 =>
        L_X5_addEvent_15 M x1 f y4 z6

def s_X5_addEvent (M : Mem) (x1 : Int32) (x2 : Int32) (x3 : Int32) : Option (Mem) :=
  (s_X4_size M 39).bind fun r1 =>
  bnd (r1 - 1) fun z2 : Int32 =>
  (L_X5_addEvent_15 M x1 FU r1 z2).bind fun p7 =>
  (s_X4_insert M 39 p7.1).bind fun r8 =>
  (s_X4_set r8 39 p7.1 0 x1).bind fun r9 =>
  (s_X4_set r9 39 p7.1 1 x2).bind fun r10 =>
  (s_X4_set r10 39 p7.1 2 x3).bind fun r11 =>
  some r11

def L_X5_addEvents_3 (t1 : Nat) (x2 : Int32) (x3 : Int32) : Nat → Int32 → Mem → Option (Int32 × Mem)
  | 0, _, _ => none
  | f + 1, y1, M2 =>
    (s_X4_size M2 t1).bind fun r3 =>
    if r3 ≤ y1 then
      some (y1, M2)
    else
      (s_X4_get M2 t1 y1 0).bind fun r4 =>
      (s_X5_addEvent M2 r4 x2 x3).bind fun r5 =>
      (s_X4_get r5 t1 y1 1).bind fun r6 =>
      (s_X5_addEvent r5 r6 (-x2) (-x3)).bind fun r7 =>
      bnd (y1 + 1) fun z8 : Int32 =>
      L_X5_addEvents_3 t1 x2 x3 f z8 r7

def s_X5_addEvents (M : Mem) (t1 : Nat) (x2 : Int32) (x3 : Int32) : Option (Mem) :=
  (L_X5_addEvents_3 t1 x2 x3 FU 0 M).bind fun p9 =>
  some p9.2

def s_X5_addWorked (M : Mem) (x1 : Int32) (x2 : Int32) : Option (Mem) :=
  (s_X4_size M 41).bind fun r1 =>
  bnd (r1 - 1) fun z2 : Int32 =>
  if z2 < 0 then
    (s_X4_addSpan M 41 x1 x2).bind fun r3 =>
    some r3
  else
    (s_X4_get M 41 z2 1).bind fun r4 =>
    if r4 = x1 then
      (s_X4_set M 41 z2 1 x2).bind fun r6 =>
      some r6
    else
      (s_X4_addSpan M 41 x1 x2).bind fun r5 =>
      some r5

def L_X5_goThroughEvents_21 : Nat → Int32 → Int32 → Int32 → Int32 → Mem → Option (Int32 × Int32 × Int32 × Int32 × Mem)
  | 0, _, _, _, _, _ => none
  | f + 1, y3, y4, y5, y6, M7 =>
    (s_X4_size M7 39).bind fun r8 =>
    if r8 ≤ y6 then
      some (y3, y4, y5, y6, M7)
    else
      (s_X4_get M7 39 y6 0).bind fun r9 =>
      bnd (α := Mem) (
        if y3 < 2 then
          M7
        else
          bnd (mst M7 38 3 ((M7 38 3) + (r9 - y5))) fun M11 : Mem =>
          M11) fun p12 =>
      Option.bind (α := Mem) (
        if r9 ≤ y5 then
          some p12
        else
          if y3 < 1 then
            some p12
          else
            if y4 = 0 then
              (s_X5_addWorked p12 y5 r9).bind fun r14 =>
              some r14
            else
              some p12) fun p15 =>
      (s_X4_get p15 39 y6 1).bind fun r16 =>
      bnd (y3 + r16) fun z17 : Int32 =>
      (s_X4_get p15 39 y6 2).bind fun r18 =>
      bnd (y4 + r18) fun z19 : Int32 =>
      bnd (y6 + 1) fun z20 : Int32 =>
      L_X5_goThroughEvents_21 f z17 z19 r9 z20 p15

def s_X5_goThroughEvents (M : Mem) : Option (Mem) :=
  (s_X4_clear M 41).bind fun r1 =>
  bnd (mst r1 38 3 0) fun M2 : Mem =>
  (L_X5_goThroughEvents_21 FU 0 0 0 0 M2).bind fun p21 =>
  some p21.2.2.2.2

def s_X5_read (M : Mem) (e1 : Nat) : Option (Mem) :=
  (s_X3_read M (e1 + 1)).bind fun r1 =>
  (s_X4_clear r1 39).bind fun r2 =>
  (s_X5_addEvents r2 44 1 0).bind fun r3 =>
  (s_X5_addEvents r3 (e1 + 3) 1 0).bind fun r4 =>
  (s_X5_addEvents r4 (e1 + 5) 0 1).bind fun r5 =>
  (s_X5_goThroughEvents r5).bind fun r6 =>
  some r6

def L_X1_takeOffAutomaticBreaks_9 (t1 : Nat) : Nat → Int32 → Mem → Option (Int32 × Mem)
  | 0, _, _ => none
  | f + 1, y2, M3 =>
    (s_X4_size M3 t1).bind fun r4 =>
    if r4 ≤ y2 then
      some (y2, M3)
    else
      (s_X4_get M3 t1 y2 0).bind fun r5 =>
      (s_X4_get M3 t1 y2 1).bind fun r6 =>
      (s_X4_addSpan M3 34 r5 (if r5 + 360 < r6 then r5 + 360 else r6)).bind fun r7 =>
      Option.bind (α := Mem) (
        if r6 ≤ (r5 + 390) then
          some r7
        else
          (s_X4_addSpan r7 34 (r5 + 390) r6).bind fun r9 =>
          some r9) fun p10 =>
      bnd (y2 + 1) fun z11 : Int32 =>
      L_X1_takeOffAutomaticBreaks_9 t1 f z11 p10

def s_X1_takeOffAutomaticBreaks (M : Mem) (t1 : Nat) : Option (Mem) :=
  (s_X4_clear M 34).bind fun r1 =>
  (L_X1_takeOffAutomaticBreaks_9 t1 FU 0 r1).bind fun p12 =>
  some p12.2

def L_X6_minutesOnDay_4 (M : Mem) (t0 : Nat) (x1 : Int32) : Nat → Int32 → Int32 → Option (Int32 × Int32)
  | 0, _, _ => none
  | f + 1, y1, y2 =>
    (s_X4_size M t0).bind fun r3 =>
    if r3 ≤ y2 then
      some (y1, y2)
    else
      (s_X4_get M t0 y2 0).bind fun r4 =>
      bnd (if r4 < x1 * 1440 then x1 * 1440 else r4) fun z5 : Int32 =>
      (s_X4_get M t0 y2 1).bind fun r6 =>
      bnd (if (x1 + 1) * 1440 < r6 then (x1 + 1) * 1440 else r6) fun z7 : Int32 =>
      bnd (y1 + (if z7 - z5 < 0 then 0 else z7 - z5)) fun z8 : Int32 =>
      bnd (y2 + 1) fun z9 : Int32 =>
      L_X6_minutesOnDay_4 M t0 x1 f z8 z9

def s_X6_minutesOnDay (M : Mem) (t0 : Nat) (x1 : Int32) : Option (Int32) :=
  (L_X6_minutesOnDay_4 M t0 x1 FU 0 0).bind fun p10 =>
  some p10.1

def L_X1_isFull_4 (M : Mem) : Nat → Int32 → Int32 → Option (Int32 × Int32)
  | 0, _, _ => none
  | f + 1, y1, y2 =>
    if 6 ≤ y2 then
      some (y1, y2)
    else
      Option.bind (α := Int32) (
        if y1 = 0 then
          some 0
        else
          (s_X6_minutesOnDay M 34 y2).bind fun r4 =>
          if r4 ≤ 0 then
            some 0
          else
            some 1) fun p5 =>
      bnd (y2 + 1) fun z6 : Int32 =>
      L_X1_isFull_4 M f p5 z6

def s_X1_isFull (M : Mem) : Option (Int32) :=
  (L_X1_isFull_4 M FU 1 0).bind fun p7 =>
  (bchk p7.1).bind fun v8 =>
  some v8

def s_X1_untilLimit (x0 : Int32) (x1 : Int32) : Option (Int32) :=
  bnd (α := Int32) (
    if 480 ≤ x0 then
      if 720 ≤ x0 then
        10080
      else
        bnd (720 - x0) fun z2 : Int32 =>
        z2
    else
      bnd (480 - x0) fun z3 : Int32 =>
      z3) fun p4 =>
  if 2400 ≤ x1 then
    some p4
  else
    some (if 2400 - x1 < p4 then 2400 - x1 else p4)

def s_X1_categoryFor (x0 : Int32) (x1 : Int32) (x2 : Int32) : Option (Int32) :=
  if 720 ≤ x0 then
    some 2
  else
    if x2 = 0 then
      if 480 ≤ x0 then
        some 1
      else
        if 2400 ≤ x1 then
          some 1
        else
          if x2 = 0 then
            some 0
          else
            some 1
    else
      if x0 < 480 then
        if 480 ≤ x0 then
          some 1
        else
          if 2400 ≤ x1 then
            some 1
          else
            if x2 = 0 then
              some 0
            else
              some 1
      else
        some 2

def L_X1_addParts_6 (x1 : Int32) (x2 : Int32) (x3 : Int32) (x4 : Int32) (x5 : Int32) : Nat → Int32 → Int32 → Mem → Option (Int32 × Int32 × Mem)
  | 0, _, _, _ => none
  | f + 1, y1, y2, M3 =>
    if 1440 ≤ y2 then
      some (y1, y2, M3)
    else
      if x2 ≤ y1 then
        some (y1, y2, M3)
      else
        bnd ((x3 + y1) - x1) fun z4 : Int32 =>
        bnd ((x4 + y1) - x1) fun z5 : Int32 =>
        (s_X1_untilLimit z4 z5).bind fun r6 =>
        bnd (if r6 < x2 - y1 then r6 else x2 - y1) fun z7 : Int32 =>
        (s_X4_size M3 36).bind fun r8 =>
        (s_X4_addSpan M3 36 y1 (y1 + z7)).bind fun r9 =>
        (s_X1_categoryFor z4 z5 x5).bind fun r10 =>
        (s_X4_set r9 36 r8 2 r10).bind fun r11 =>
        bnd (y1 + z7) fun z12 : Int32 =>
        bnd (y2 + 1) fun z13 : Int32 =>
        L_X1_addParts_6 x1 x2 x3 x4 x5 f z12 z13 r11

def s_X1_addParts (M : Mem) (x1 : Int32) (x2 : Int32) (x3 : Int32) (x4 : Int32) (x5 : Int32) : Option (Mem) :=
  (L_X1_addParts_6 x1 x2 x3 x4 x5 FU x1 0 M).bind fun p14 =>
  some p14.2.2

def L_X1_addPartsOfDay_6 (x1 : Int32) (x2 : Int32) (x3 : Int32) : Nat → Int32 → Int32 → Mem → Option (Int32 × Int32 × Mem)
  | 0, _, _, _ => none
  | f + 1, y1, y2, M3 =>
    (s_X4_size M3 34).bind fun r4 =>
    if r4 ≤ y2 then
      some (y1, y2, M3)
    else
      (s_X4_get M3 34 y2 0).bind fun r5 =>
      bnd (if r5 < x1 * 1440 then x1 * 1440 else r5) fun z6 : Int32 =>
      (s_X4_get M3 34 y2 1).bind fun r7 =>
      bnd (if (x1 + 1) * 1440 < r7 then (x1 + 1) * 1440 else r7) fun z8 : Int32 =>
      Option.bind (α := Int32 × Mem) (
        if z8 ≤ z6 then
          some (y1, M3)
        else
          (s_X1_addParts M3 z6 z8 y1 (x2 + y1) x3).bind fun r10 =>
          bnd (y1 + (z8 - z6)) fun z11 : Int32 =>
          some (z11, r10)) fun p12 =>
      bnd (y2 + 1) fun z13 : Int32 =>
      L_X1_addPartsOfDay_6 x1 x2 x3 f p12.1 z13 p12.2

def s_X1_addPartsOfDay (M : Mem) (x1 : Int32) (x2 : Int32) (x3 : Int32) : Option (Mem) :=
  (L_X1_addPartsOfDay_6 x1 x2 x3 FU 0 0 M).bind fun p14 =>
  some p14.2.2

def L_X1_read_36 (r4 : Int32) : Nat → Int32 → Int32 → Mem → Option (Int32 × Int32 × Mem)
  | 0, _, _, _ => none
  | f + 1, y5, y6, M7 =>
    if 7 ≤ y6 then
      some (y5, y6, M7)
    else
      bnd (α := Int32) (
        if r4 = 0 then
          0
        else
          if y6 = 6 then
            1
          else
            0) fun p9 =>
      (s_X1_addPartsOfDay M7 y6 y5 p9).bind fun r10 =>
      (s_X6_minutesOnDay r10 34 y6).bind fun r11 =>
      bnd (y5 + r11) fun z12 : Int32 =>
      bnd (y6 + 1) fun z13 : Int32 =>
      L_X1_read_36 r4 f z12 z13 r10

def s_X1_read (M : Mem) (e1 : Nat) : Option (Mem) :=
  (s_X5_read M e1).bind fun r1 =>
  (s_X1_takeOffAutomaticBreaks r1 41).bind fun r2 =>
  (s_X4_clear r2 36).bind fun r3 =>
  (s_X1_isFull r3).bind fun r4 =>
  (L_X1_read_36 r4 FU 0 0 r3).bind fun p14 =>
  some p14.2.2

def L_X1_minutesOf_5 (M : Mem) (x1 : Int32) (x2 : Int32) : Nat → Int32 → Int32 → Option (Int32 × Int32)
  | 0, _, _ => none
  | f + 1, y1, y2 =>
    (s_X4_size M 36).bind fun r3 =>
    if r3 ≤ y2 then
      some (y1, y2)
    else
      (s_X4_get M 36 y2 2).bind fun r4 =>
      Option.bind (α := Int32) (
        if r4 = x2 then
          (s_X4_get M 36 y2 0).bind fun r6 =>
          if (r6 / 1440) = x1 then
            (s_X4_get M 36 y2 1).bind fun r7 =>
            (s_X4_get M 36 y2 0).bind fun r8 =>
            bnd (y1 + (r7 - r8)) fun z9 : Int32 =>
            some z9
          else
            some y1
        else
          some y1) fun p10 =>
      bnd (y2 + 1) fun z11 : Int32 =>
      L_X1_minutesOf_5 M x1 x2 f p10 z11

def s_X1_minutesOf (M : Mem) (x1 : Int32) (x2 : Int32) : Option (Int32) :=
  (L_X1_minutesOf_5 M x1 x2 FU 0 0).bind fun p12 =>
  some p12.1

def L_X1_quartersOfWeek_4 (M : Mem) (x1 : Int32) : Nat → Int32 → Int32 → Option (Int32 × Int32)
  | 0, _, _ => none
  | f + 1, y1, y2 =>
    if 7 ≤ y2 then
      some (y1, y2)
    else
      (s_X1_minutesOf M y2 x1).bind fun r3 =>
      bnd (y1 + r3) fun z4 : Int32 =>
      bnd (y2 + 1) fun z5 : Int32 =>
      L_X1_quartersOfWeek_4 M x1 f z4 z5

def s_X1_quartersOfWeek (M : Mem) (x1 : Int32) : Option (Int32) :=
  (L_X1_quartersOfWeek_4 M x1 FU 0 0).bind fun p6 =>
  some ((p6.1 + 7) / 15)

def L_X1_quartersOf_20 (M : Mem) (x1 : Int32) (x2 : Int32) (r1 : Int32) : Nat → Int32 → Int32 → Int32 → Option (Int32 × Int32 × Int32)
  | 0, _, _, _ => none
  | f + 1, y3, y4, y5 =>
    if 7 ≤ y5 then
      some (y3, y4, y5)
    else
      (s_X1_minutesOf M y5 x2).bind fun r6 =>
      bnd ((r6 - r6 / 15 * 15) - (r1 - r1 / 15 * 15)) fun z7 : Int32 =>
      bnd (y3 - (r6 / 15)) fun z8 : Int32 =>
      bnd (α := Int32) (
        if 0 < z7 then
          bnd (y4 + 1) fun z10 : Int32 =>
          z10
        else
          if z7 = 0 then
            if x1 ≤ y5 then
              y4
            else
              bnd (y4 + 1) fun z11 : Int32 =>
              z11
          else
            y4) fun p12 =>
      bnd (y5 + 1) fun z13 : Int32 =>
      L_X1_quartersOf_20 M x1 x2 r1 f z8 p12 z13

def s_X1_quartersOf (M : Mem) (x1 : Int32) (x2 : Int32) : Option (Int32) :=
  (s_X1_minutesOf M x1 x2).bind fun r1 =>
  (s_X1_quartersOfWeek M x2).bind fun r2 =>
  (L_X1_quartersOf_20 M x1 x2 r1 FU r2 0 0).bind fun p14 =>
  bnd (α := Int32) (
    if p14.1 ≤ p14.2.1 then
      0
    else
      1) fun p16 =>
  some ((r1 / 15) + p16)

def s_X1_basicPay (M : Mem) (x1 : Int32) : Option (Int32) :=
  (s_X1_quartersOfWeek M 0).bind fun r1 =>
  (s_X1_quartersOfWeek M 1).bind fun r2 =>
  (s_X1_quartersOfWeek M 2).bind fun r3 =>
  bnd (((2 * r1) + (3 * r2)) + (4 * r3)) fun z4 : Int32 =>
  some (((x1 * z4) + 4) / 8)

def s_X2_add (M : Mem) (x1 : Int32) (x2 : Int32) (x3 : Int32) (x4 : Int32) : Option (Int32 × Mem) :=
  (s_X4_size M 31).bind fun r1 =>
  (s_X4_insert M 31 r1).bind fun r2 =>
  (s_X4_set r2 31 r1 0 x1).bind fun r3 =>
  (s_X4_set r3 31 r1 1 x2).bind fun r4 =>
  (s_X4_set r4 31 r1 2 x3).bind fun r5 =>
  (s_X4_set r5 31 r1 3 x4).bind fun r6 =>
  some (r1, r6)

def L_X2_nextChange_6 (M : Mem) (x1 : Int32) : Nat → Int32 → Int32 → Option (Int32 × Int32)
  | 0, _, _ => none
  | f + 1, y1, y2 =>
    (s_X4_size M 31).bind fun r3 =>
    if r3 ≤ y2 then
      some (y1, y2)
    else
      (s_X4_get M 31 y2 1).bind fun r4 =>
      (s_X4_get M 31 y2 2).bind fun r5 =>
      bnd (α := Int32) (
        if r4 ≤ x1 then
          y1
        else
          (if r4 < y1 then r4 else y1)) fun p7 =>
      bnd (α := Int32) (
        if r5 ≤ x1 then
          p7
        else
          (if r5 < p7 then r5 else p7)) fun p9 =>
      bnd (y2 + 1) fun z10 : Int32 =>
      L_X2_nextChange_6 M x1 f p9 z10

def s_X2_nextChange (M : Mem) (x1 : Int32) : Option (Int32) :=
  (L_X2_nextChange_6 M x1 FU 1440 0).bind fun p11 =>
  some p11.1

def s_X2_isBetween (x0 : Int32) (x1 : Int32) (x2 : Int32) : Option (Int32) :=
  if x2 ≤ x1 then
    if x1 = x2 then
      some 1
    else
      if x1 ≤ x0 then
        some 1
      else
        if x2 ≤ x0 then
          some 0
        else
          some 1
  else
    if x0 < x1 then
      some 0
    else
      if x2 ≤ x0 then
        some 0
      else
        some 1

def L_X2_greatestRate_5 (M : Mem) (x1 : Int32) (x2 : Int32) : Nat → Int32 → Int32 → Option (Int32 × Int32)
  | 0, _, _ => none
  | f + 1, y1, y2 =>
    (s_X4_size M 31).bind fun r3 =>
    if r3 ≤ y2 then
      some (y1, y2)
    else
      (s_X4_get M 31 y2 0).bind fun r4 =>
      bnd (α := Int32) (
        if ((r4 >>> (x1 &&& 31)) &&& 1) = 1 then
          1
        else
          0) fun p6 =>
      Option.bind (α := Int32) (
        if p6 = 0 then
          some y1
        else
          (s_X4_get M 31 y2 1).bind fun r8 =>
          (s_X4_get M 31 y2 2).bind fun r9 =>
          (s_X2_isBetween x2 r8 r9).bind fun r10 =>
          if r10 = 0 then
            some y1
          else
            (s_X4_get M 31 y2 3).bind fun r11 =>
            bnd (if y1 < r11 then r11 else y1) fun z12 : Int32 =>
            some z12) fun p13 =>
      bnd (y2 + 1) fun z14 : Int32 =>
      L_X2_greatestRate_5 M x1 x2 f p13 z14

def s_X2_greatestRate (M : Mem) (x1 : Int32) (x2 : Int32) : Option (Int32) :=
  (L_X2_greatestRate_5 M x1 x2 FU 0 0).bind fun p15 =>
  some p15.1

def L_X2_sumOver_8 (M : Mem) (x2 : Int32) : Nat → Int32 → Int32 → Int32 → Option (Int32 × Int32 × Int32)
  | 0, _, _, _ => none
  | f + 1, y1, y2, y3 =>
    if 1440 ≤ y3 then
      some (y1, y2, y3)
    else
      if x2 ≤ y2 then
        some (y1, y2, y3)
      else
        bnd (y2 / 1440) fun z4 : Int32 =>
        (s_X2_nextChange M (y2 - y2 / 1440 * 1440)).bind fun r5 =>
        bnd (if (z4 * 1440) + r5 < x2 then (z4 * 1440) + r5 else x2) fun z6 : Int32 =>
        (s_X2_greatestRate M z4 (y2 - y2 / 1440 * 1440)).bind fun r7 =>
        bnd (y1 + (r7 * (z6 - y2))) fun z8 : Int32 =>
        bnd (y3 + 1) fun z9 : Int32 =>
        L_X2_sumOver_8 M x2 f z8 z6 z9

def s_X2_sumOver (M : Mem) (x1 : Int32) (x2 : Int32) : Option (Int32) :=
  (L_X2_sumOver_8 M x2 FU 0 x1 0).bind fun p10 =>
  some p10.1

def L_X2_payFor_4 (M : Mem) (t1 : Nat) : Nat → Int32 → Int32 → Option (Int32 × Int32)
  | 0, _, _ => none
  | f + 1, y1, y2 =>
    (s_X4_size M t1).bind fun r3 =>
    if r3 ≤ y2 then
      some (y1, y2)
    else
      (s_X4_get M t1 y2 0).bind fun r4 =>
      (s_X4_get M t1 y2 1).bind fun r5 =>
      (s_X2_sumOver M r4 r5).bind fun r6 =>
      bnd (y1 + r6) fun z7 : Int32 =>
      bnd (y2 + 1) fun z8 : Int32 =>
      L_X2_payFor_4 M t1 f z7 z8

def s_X2_payFor (M : Mem) (t1 : Nat) : Option (Int32) :=
  (L_X2_payFor_4 M t1 FU 0 0).bind fun p9 =>
  some ((p9.1 + 30) / 60)

def s_X6_requireWithin (x0 : Int32) (x1 : Int32) (x2 : Int32) : Option (Nat) :=
  if x0 < x1 then
    some 1
  else
    if x0 ≤ x2 then
      some 0
    else
      some 1

def s_X6_requireRoom (M : Mem) (t0 : Nat) (x1 : Int32) : Option (Nat) :=
  (s_X4_size M t0).bind fun r1 =>
  if r1 < x1 then
    some 0
  else
    some 2

def s_X6_addPremium (M : Mem) (x1 : Int32) (x2 : Int32) (x3 : Int32) (x4 : Int32) : Option (Nat × Int32 × Mem) :=
  (s_X6_requireWithin x1 1 127).bind fun r1 =>
  if ¬ r1 = 0 then some (r1, 0, M) else
  (s_X6_requireWithin x2 0 1439).bind fun r2 =>
  if ¬ r2 = 0 then some (r2, 0, M) else
  (s_X6_requireWithin x3 0 1439).bind fun r3 =>
  if ¬ r3 = 0 then some (r3, 0, M) else
  (s_X6_requireWithin x4 1 10000).bind fun r4 =>
  if ¬ r4 = 0 then some (r4, 0, M) else
  (s_X6_requireRoom M 31 6).bind fun r5 =>
  if ¬ r5 = 0 then some (r5, 0, M) else
  (s_X2_add M x1 x2 x3 x4).bind fun r6 =>
  some (0, r6.1, r6.2)

def s_X6_find (hn : Nat) (x1 : Int32) : Option (Nat × Nat) :=
  if x1 < 0 then
    some (3, 0)
  else
    if (nI hn) ≤ x1 then
      some (3, 0)
    else
      if x1 < 6 then
        (mrs hn x1).bind fun u1 =>
        some (0, u1)
      else
        some (3, 0)

def s_X6_addByHand (M : Mem) (t0 : Nat) (x1 : Int32) (x2 : Int32) (x3 : Int32) : Option (Nat × Int32 × Mem) :=
  (s_X6_requireWithin x1 0 10079).bind fun r1 =>
  if ¬ r1 = 0 then some (r1, 0, M) else
  (s_X6_requireWithin x2 (x1 + 1) 10080).bind fun r2 =>
  if ¬ r2 = 0 then some (r2, 0, M) else
  (s_X6_requireRoom M t0 x3).bind fun r3 =>
  if ¬ r3 = 0 then some (r3, 0, M) else
  (s_X4_addSpan M t0 x1 x2).bind fun r4 =>
  (s_X4_size r4 t0).bind fun r5 =>
  some (0, r5 - 1, r4)

def s_X6_enter (M : Mem) (hn : Nat) (x1 : Int32) (x2 : Int32) (x3 : Int32) : Option (Nat × Int32 × Mem) :=
  (s_X6_find hn x1).bind fun r1 =>
  if ¬ r1.1 = 0 then some (r1.1, 0, M) else
  (s_X6_addByHand M (r1.2 + 3) x2 x3 20).bind fun r2 =>
  if ¬ r2.1 = 0 then some (r2.1, 0, r2.2.2) else
  some (0, r2.2.1, r2.2.2)

def s_X6_enterBreak (M : Mem) (hn : Nat) (x1 : Int32) (x2 : Int32) (x3 : Int32) : Option (Nat × Int32 × Mem) :=
  (s_X6_find hn x1).bind fun r1 =>
  if ¬ r1.1 = 0 then some (r1.1, 0, M) else
  (s_X6_addByHand M (r1.2 + 5) x2 x3 20).bind fun r2 =>
  if ¬ r2.1 = 0 then some (r2.1, 0, r2.2.2) else
  some (0, r2.2.1, r2.2.2)

def s_X6_minutes (M : Mem) (hn : Nat) (x1 : Int32) (x2 : Int32) (x3 : Int32) : Option (Nat × Int32 × Mem) :=
  (s_X6_find hn x1).bind fun r1 =>
  if ¬ r1.1 = 0 then some (r1.1, 0, M) else
  (s_X6_requireWithin x2 0 6).bind fun r2 =>
  if ¬ r2 = 0 then some (r2, 0, M) else
  (s_X6_requireWithin x3 0 2).bind fun r3 =>
  if ¬ r3 = 0 then some (r3, 0, M) else
  (s_X1_read M r1.2).bind fun r4 =>
  (s_X1_minutesOf r4 x2 x3).bind fun r5 =>
  some (0, r5, r4)

def s_X6_quarters (M : Mem) (hn : Nat) (x1 : Int32) (x2 : Int32) (x3 : Int32) : Option (Nat × Int32 × Mem) :=
  (s_X6_find hn x1).bind fun r1 =>
  if ¬ r1.1 = 0 then some (r1.1, 0, M) else
  (s_X6_requireWithin x2 0 6).bind fun r2 =>
  if ¬ r2 = 0 then some (r2, 0, M) else
  (s_X6_requireWithin x3 0 2).bind fun r3 =>
  if ¬ r3 = 0 then some (r3, 0, M) else
  (s_X1_read M r1.2).bind fun r4 =>
  (s_X1_quartersOf r4 x2 x3).bind fun r5 =>
  some (0, r5, r4)

def s_X6_premiumPay (M : Mem) (hn : Nat) (x1 : Int32) : Option (Nat × Int32 × Mem) :=
  (s_X6_find hn x1).bind fun r1 =>
  if ¬ r1.1 = 0 then some (r1.1, 0, M) else
  (s_X1_read M r1.2).bind fun r2 =>
  (s_X2_payFor r2 36).bind fun r3 =>
  some (0, r3, r2)

def s_X6_pay (M : Mem) (hn : Nat) (x1 : Int32) : Option (Nat × Int32 × Mem) :=
  (s_X6_find hn x1).bind fun r1 =>
  if ¬ r1.1 = 0 then some (r1.1, 0, M) else
  (s_X1_read M r1.2).bind fun r2 =>
  (s_X1_basicPay r2 (r2 r1.2 0)).bind fun r3 =>
  (s_X2_payFor r2 36).bind fun r4 =>
  some (0, r3 + r4, r2)

def s_X6_workedOn (M : Mem) (hn : Nat) (x1 : Int32) (x2 : Int32) : Option (Nat × Int32 × Mem) :=
  (s_X6_find hn x1).bind fun r1 =>
  if ¬ r1.1 = 0 then some (r1.1, 0, M) else
  (s_X6_requireWithin x2 0 6).bind fun r2 =>
  if ¬ r2 = 0 then some (r2, 0, M) else
  (s_X5_read M r1.2).bind fun r3 =>
  (s_X6_minutesOnDay r3 41 x2).bind fun r4 =>
  some (0, r4, r3)

def s_X6_closeWeek (M : Mem) (G : Mel) (hn : Nat) (x1 : Int32) : Option (Nat × Int32 × Mem × Mel) :=
  (s_X6_find hn x1).bind fun r1 =>
  if ¬ r1.1 = 0 then some (r1.1, 0, M, G) else
  (s_X4_size M (r1.2 + 1)).bind fun r2 =>
  if r2 = 0 then
    (s_X4_size M (r1.2 + 3)).bind fun r8 =>
    if r8 = 0 then
      some (2, 0, M, G)
    else
      (s_X1_read M r1.2).bind fun r9 =>
      (s_X1_basicPay r9 (r9 r1.2 0)).bind fun r10 =>
      (s_X2_payFor r9 36).bind fun r11 =>
      bnd (r10 + r11) fun z12 : Int32 =>
      (s_X0_beginNextWeek r9 G r1.2 z12).bind fun r13 =>
      some (0, z12, r13.1, r13.2)
  else
    (s_X1_read M r1.2).bind fun r3 =>
    (s_X1_basicPay r3 (r3 r1.2 0)).bind fun r4 =>
    (s_X2_payFor r3 36).bind fun r5 =>
    bnd (r4 + r5) fun z6 : Int32 =>
    (s_X0_beginNextWeek r3 G r1.2 z6).bind fun r7 =>
    some (0, z6, r7.1, r7.2)

def s_X6_earned (G : Mel) (hn : Nat) (x1 : Int32) : Option (Nat × Int64) :=
  (s_X6_find hn x1).bind fun r1 =>
  if ¬ r1.1 = 0 then some (r1.1, 0) else
  some (0, G r1.2 2)

def s_X6_closedWeeks (M : Mem) (hn : Nat) (x1 : Int32) : Option (Nat × Int32) :=
  (s_X6_find hn x1).bind fun r1 =>
  if ¬ r1.1 = 0 then some (r1.1, 0) else
  some (0, M r1.2 1)

def s_X6_shifts (M : Mem) (hn : Nat) (x1 : Int32) : Option (Nat × Int32 × Mem) :=
  (s_X6_find hn x1).bind fun r1 =>
  if ¬ r1.1 = 0 then some (r1.1, 0, M) else
  (s_X3_read M (r1.2 + 1)).bind fun r2 =>
  (s_X4_size r2 44).bind fun r3 =>
  some (0, r3, r2)

def s_X6_stretches (M : Mem) (hn : Nat) (x1 : Int32) : Option (Nat × Int32 × Mem) :=
  (s_X6_find hn x1).bind fun r1 =>
  if ¬ r1.1 = 0 then some (r1.1, 0, M) else
  (s_X5_read M r1.2).bind fun r2 =>
  (s_X4_size r2 41).bind fun r3 =>
  some (0, r3, r2)

def s_X6_overlap (M : Mem) (hn : Nat) (x1 : Int32) : Option (Nat × Int32 × Mem) :=
  (s_X6_find hn x1).bind fun r1 =>
  if ¬ r1.1 = 0 then some (r1.1, 0, M) else
  (s_X5_read M r1.2).bind fun r2 =>
  some (0, r2 38 3, r2)

def L_X6_longest_4 (M : Mem) (t0 : Nat) : Nat → Int32 → Int32 → Option (Int32 × Int32)
  | 0, _, _ => none
  | f + 1, y1, y2 =>
    (s_X4_size M t0).bind fun r3 =>
    if r3 ≤ y2 then
      some (y1, y2)
    else
      (s_X4_get M t0 y2 1).bind fun r4 =>
      (s_X4_get M t0 y2 0).bind fun r5 =>
      bnd (if y1 < r4 - r5 then r4 - r5 else y1) fun z6 : Int32 =>
      bnd (y2 + 1) fun z7 : Int32 =>
      L_X6_longest_4 M t0 f z6 z7

def s_X6_longest (M : Mem) (t0 : Nat) : Option (Int32) :=
  (L_X6_longest_4 M t0 FU 0 0).bind fun p8 =>
  some p8.1

def s_X6_longestStretch (M : Mem) (hn : Nat) (x1 : Int32) : Option (Nat × Int32 × Mem) :=
  (s_X6_find hn x1).bind fun r1 =>
  if ¬ r1.1 = 0 then some (r1.1, 0, M) else
  (s_X5_read M r1.2).bind fun r2 =>
  (s_X6_longest r2 41).bind fun r3 =>
  some (0, r3, r2)

def s_X6_repairedShifts (M : Mem) (hn : Nat) (x1 : Int32) : Option (Nat × Int32 × Mem) :=
  (s_X6_find hn x1).bind fun r1 =>
  if ¬ r1.1 = 0 then some (r1.1, 0, M) else
  (s_X3_read M (r1.2 + 1)).bind fun r2 =>
  some (0, r2 43 1, r2)
end
section
set_option maxHeartbeats 4000000 in
theorem c_L_cell {Y : Lx} {o : Nat → Nat} {hn : Nat} {M : Mem} {G : Mel} {q L : Nat} {xs : Nat → Int32} {k rr : Int32} (hE : s_L_cell L xs k = some rr) : MS Y yL_cell cL_cell 2 (some .int) 0 0 [.ref q, .int k] o hn M G q L xs (.inl (some (.int rr))) := by
  refine MS.of (by decide +kernel) (Nat.le_of_ble_eq_true rfl) (fun X hY hX hR hS => ?_)
  change CxOK X RL cL_cell 2 0 0 0 0 (some .int) at hX
  show WM X o hn M G 0 0 0 2 [(0, .ref q), (1, .int k)] []
  unfold s_L_cell at hE
  refine q_iload_n (pc := 0) hX 1 rfl rfl dL_cell_0 ?_
  refine q_aload_n (pc := 1) hX 0 rfl rfl dL_cell_1 ?_
  refine r_slen (pc := 2) hX hS dL_cell_2 ?_
  refine q_icmp_ge (pc := 3) hX 12 (by decide) dL_cell_3 (fun c => ?_) (fun c => ?_)
  · rw [if_neg (Int32.not_lt.mpr c)] at hE
    cases hE
    refine q_sipush (pc := 12) hX (7919) (by decide) dL_cell_12 ?_
    refine q_iload_n (pc := 15) hX 1 rfl rfl dL_cell_15 ?_
    refine q_iconst (pc := 16) hX (3) rfl dL_cell_16 ?_
    refine q_iadd (pc := 17) hX dL_cell_17 ?_
    refine q_imul (pc := 18) hX dL_cell_18 ?_
    refine q_iload_n (pc := 19) hX 1 rfl rfl dL_cell_19 ?_
    refine q_bipush (pc := 20) hX (11) (by decide) dL_cell_20 ?_
    refine q_iadd (pc := 22) hX dL_cell_22 ?_
    refine q_imul (pc := 23) hX dL_cell_23 ?_
    exact q_iret hX hR (by decide) (by decide) dL_cell_24
  · rw [if_pos (Int32.not_le.mp c)] at hE
    by_cases d : k < 0 ∨ L ≤ k.toNatClampNeg
    · rw [if_pos d] at hE; cases hE
    · rw [if_neg d] at hE
      cases hE
      refine q_aload_n (pc := 6) hX 0 rfl rfl dL_cell_6 ?_
      refine q_iload_n (pc := 7) hX 1 rfl rfl dL_cell_7 ?_
      refine r_sld (pc := 8) hX hS rfl d dL_cell_8 ?_
      refine q_goto (pc := 9) hX 24 (by decide) dL_cell_9 ?_
      exact q_iret hX hR (by decide) (by decide) dL_cell_24
section
variable {X : Cx} {cc : ByteArray} {nL fr lc mc0 ms0 : Nat} {rt : Option FieldType} {o : Nat → Nat} {hn : Nat} {M : Mem} {G : Mel} {a b pc : Nat} {lo : List (Nat × Value)} {st : List Value}
/-- a call of the law's 'cell' -/
theorem q_cell (hX : CxOK X RL cc nL fr lc mc0 ms0 rt) {q L : Nat} {xs : Nat → Int32} (hS : ScrOK X q L xs) {k v : Int32} (hW : s_L_cell L xs k = some v) (hfr : 1 ≤ fr) (hlc : 21 ≤ lc) (hca : a ≤ mc0) (hcb : b ≤ ms0) (hcat : (st.map fun v => v.category).sum ≤ 8) (d : decode cc pc = .ok (.invokestatic 54, 3))
    (kk : WM X o hn M G a b (pc + 3) nL lo (.int v :: st)) : WM X o hn M G a b pc nL lo (.int k :: .ref q :: st) := by
  have hv : SL RL 54 yL_cell cL_cell 2 (some .int) := sl_L_54
  obtain ⟨⟨l, dC, dI, ac⟩, p, e, R, s, m, args, below, meth, c, Q, A⟩ := X
  obtain ⟨hRm, hx, hb, hml, hown, hts, hK, hA, hMF, hrt, hlk, htr⟩ := hX
  obtain ⟨h1, h2, h3⟩ := hS
  intro H locs ls hw hl
  have hf := va_freeAll hw.2.1 hw.2.2 hA
  have hHq : H[q]? = s.heap[q]? := hw.2.2.2.1 q h2 h3
  have hr : vx_Run p l e R s m args below meth c H locs a b 0 0 (F0 m pc ls (.int k :: .ref q :: st)) st (QcM (l, dC, dI, ac) (va_A (Wd ac o hn M G) H.size) o hn M G (.inl (some (.int v))) [Value.ref q, .int k].toArray) (XcM (l, dC, dI, ac) (va_A (Wd ac o hn M G) H.size) o hn M G (.inl (some (.int v)))) (va_A (Wd ac o hn M G) H.size) := vx_runS (As := [.ref q, .int k]) (rest := st) ⟨hx, hb, hml, hown, hts⟩ (c_L_cell (Y := (l, dC, dI, ac)) (o := o) (hn := hn) (M := M) (G := G) (q := q) hW htr H.size) (cwS 2 hts (good_S hv) rfl rfl rfl ⟨hv.2.2.2.2.2.2, hv.2.2.2.2.1, hv.2.2.2.2.2.1, pd_yL_cell⟩ (by rw [hRm]; exact ⟨hfr, hlc⟩)) ⟨PreK.blind _ _ _ _ _ _ _ _ _ _, fun U hU hW => ⟨rfl, PreM.at (Y := (l, dC, dI, ac)) hw hK hA hMF hU hW, by rw [hU]; exact (h1.kept hHq).moved hW.alike, by rw [hU]; exact Nat.lt_of_lt_of_le h2 hw.2.2.1, fun z => h3 (hf q z)⟩⟩ rfl rfl hl.1 rfl (lv_room hcat) d (by rw [hRm]; exact ⟨hca, hcb⟩)
  exact q_ok (Y := (l, dC, dI, ac)) hA hw hl hr rfl kk
end
end
section
set_option maxHeartbeats 4000000 in
theorem c_X4_size {Y : Lx} {o : Nat → Nat} {hn : Nat} {M : Mem} {G : Mel} {t : Nat} {rr : Int32} (ht : tb hn t) (hE : s_X4_size M t = some (rr)) : MI Y yX4_size cX4_size 1 (some .int) 0 0 0 0 [.ref (o t)] o hn M G (.inl (some (.int rr))) M G := by
  refine MI.of (by decide +kernel) (Nat.le_of_ble_eq_true rfl) (fun X hY hX hE0 hR => ?_)
  change CxOK X RX4 cX4_size 1 0 0 0 0 (some .int) at hX
  show WM X o hn M G 0 0 0 1 [(0, .ref (o t))] []
  unfold s_X4_size at hE
  refine q_aload_n (pc := 0) hX 0 rfl rfl dX4_size_0 ?_
  refine q_get (pc := 1) (id := t) (ci := 4) (N := 3) (T := TX4) (C := RX4) hX 2 (tb_lt ht) (ob_T ht.1 _ _) rfl in_X4 (by decide) (Or.inl kw_37) rfl dX4_size_1 ?_
  cases hE
  exact q_iret hX hR (by decide) (by decide) dX4_size_4

set_option maxHeartbeats 4000000 in
theorem l_X4_insert_46 {X : Cx} (hX : CxOK X RX4 cX4_insert 3 0 0 0 0 none) (hE0 : CxE X []) {o : Nat → Nat} {hn : Nat} {t : Nat} {x1 : Int32} {G : Mel} (ht : tb hn t) : ∀ (f : Nat) (y2 : Int32) (M3 : Mem) (p7 : Int32 × Mem), L_X4_insert_46 t x1 f y2 M3 = some p7 → WM X o hn p7.2 G 0 0 81 3 [(0, .ref (o t)), (1, .int x1), (2, .int p7.1)] [] → WM X o hn M3 G 0 0 46 3 [(0, .ref (o t)), (1, .int x1), (2, .int y2)] [] := by
  intro f
  induction f with
  | zero => intro y2 M3 p7 hE; simp [L_X4_insert_46] at hE
  | succ f ih =>
    intro y2 M3 p7 hE hx
    rw [L_X4_insert_46] at hE
    refine q_iload_n (pc := 46) hX 2 rfl rfl dX4_insert_46 ?_
    refine q_iload_n (pc := 47) hX 1 rfl rfl dX4_insert_47 ?_
    refine q_iconst (pc := 48) hX (1) rfl dX4_insert_48 ?_
    refine q_iadd (pc := 49) hX dX4_insert_49 ?_
    refine q_aload_n (pc := 50) hX 0 rfl rfl dX4_insert_50 ?_
    refine q_get (pc := 51) (id := t) (ci := 4) (N := 3) (T := TX4) (C := RX4) hX 0 (tb_lt ht) (ob_T ht.1 _ _) rfl in_X4 (by decide) (Or.inl kw_35) rfl dX4_insert_51 ?_
    refine q_imul (pc := 54) hX dX4_insert_54 ?_
    refine q_icmp_lt (pc := 55) hX 81 (by decide) dX4_insert_55 (fun c => ?_) (fun c => ?_)
    · rw [if_pos c] at hE
      cases hE
      exact hx
    · rw [if_neg c] at hE
      refine q_aload_n (pc := 58) hX 0 rfl rfl dX4_insert_58 ?_
      refine q_get (pc := 59) (id := t) (ci := 4) (N := 3) (T := TX4) (C := RX4) hX 1 (tb_lt ht) (ob_T ht.1 _ _) rfl in_X4 (by decide) (Or.inl kw_36) rfl dX4_insert_59 ?_
      refine q_iload_n (pc := 62) hX 2 rfl rfl dX4_insert_62 ?_
      refine q_aload_n (pc := 63) hX 0 rfl rfl dX4_insert_63 ?_
      refine q_get (pc := 64) (id := t) (ci := 4) (N := 3) (T := TX4) (C := RX4) hX 1 (tb_lt ht) (ob_T ht.1 _ _) rfl in_X4 (by decide) (Or.inl kw_36) rfl dX4_insert_64 ?_
      refine q_iload_n (pc := 67) hX 2 rfl rfl dX4_insert_67 ?_
      refine q_aload_n (pc := 68) hX 0 rfl rfl dX4_insert_68 ?_
      refine q_get (pc := 69) (id := t) (ci := 4) (N := 3) (T := TX4) (C := RX4) hX 0 (tb_lt ht) (ob_T ht.1 _ _) rfl in_X4 (by decide) (Or.inl kw_35) rfl dX4_insert_69 ?_
      refine q_isub (pc := 72) hX dX4_insert_72 ?_
      obtain ⟨v4, hv4, hE⟩ := ob_bind hE
      refine r_iald (pc := 73) (id := (t + 1)) (n := (tl t)) hX (tb_lt1 ht) (fun f g => ob_C ht.1 f g) hv4 dX4_insert_73 ?_
      obtain ⟨M5, hM5, hE⟩ := ob_bind hE
      refine r_iast (pc := 74) (id := (t + 1)) (n := (tl t)) hX (tb_lt1 ht) (fun f g => ob_C ht.1 f g) hM5 dX4_insert_74 ?_
      obtain ⟨z6, hz6⟩ : ∃ z : Int32, z = y2 + (-1) := ⟨_, rfl⟩
      have hE := bnd_nm hz6 hE
      refine q_iinc (pc := 75) (lo' := [(0, .ref (o t)), (1, .int x1), (2, .int z6)]) hX 2 z6 [1, 2, 0] rfl (by rw [hz6]; rfl) (by decide) rfl dX4_insert_75 ?_
      refine q_goto (pc := 78) hX 46 (by decide) dX4_insert_78 ?_
      exact ih _ _ p7 hE hx

set_option maxHeartbeats 4000000 in
theorem c_X4_insert {Y : Lx} {o : Nat → Nat} {hn : Nat} {M : Mem} {G : Mel} {t : Nat} {x1 : Int32} {Mr : Mem} (ht : tb hn t) (hE : s_X4_insert M t x1 = some (Mr)) : MI Y yX4_insert cX4_insert 3 none 0 0 0 0 [.ref (o t), .int x1] o hn M G (.inl (none)) Mr G := by
  refine MI.of (by decide +kernel) (Nat.le_of_ble_eq_true rfl) (fun X hY hX hE0 hR => ?_)
  change CxOK X RX4 cX4_insert 3 0 0 0 0 none at hX
  show WM X o hn M G 0 0 0 3 [(0, .ref (o t)), (1, .int x1)] []
  unfold s_X4_insert at hE
  refine q_iload_n (pc := 0) hX 1 rfl rfl dX4_insert_0 ?_
  refine q_if_lt (pc := 1) hX 31 (by decide) dX4_insert_1 (fun c => ?_) (fun c => ?_)
  · rw [if_pos c] at hE
    cases hE
    exact q_vret hX hR (by decide) (by decide) dX4_insert_31
  · rw [if_neg c] at hE
    refine q_iload_n (pc := 4) hX 1 rfl rfl dX4_insert_4 ?_
    refine q_aload_n (pc := 5) hX 0 rfl rfl dX4_insert_5 ?_
    refine q_get (pc := 6) (id := t) (ci := 4) (N := 3) (T := TX4) (C := RX4) hX 2 (tb_lt ht) (ob_T ht.1 _ _) rfl in_X4 (by decide) (Or.inl kw_37) rfl dX4_insert_6 ?_
    refine q_icmp_gt (pc := 9) hX 31 (by decide) dX4_insert_9 (fun c => ?_) (fun c => ?_)
    · rw [if_pos c] at hE
      cases hE
      exact q_vret hX hR (by decide) (by decide) dX4_insert_31
    · rw [if_neg c] at hE
      refine q_aload_n (pc := 12) hX 0 rfl rfl dX4_insert_12 ?_
      refine q_get (pc := 13) (id := t) (ci := 4) (N := 3) (T := TX4) (C := RX4) hX 2 (tb_lt ht) (ob_T ht.1 _ _) rfl in_X4 (by decide) (Or.inl kw_37) rfl dX4_insert_13 ?_
      refine q_iconst (pc := 16) hX (1) rfl dX4_insert_16 ?_
      refine q_iadd (pc := 17) hX dX4_insert_17 ?_
      refine q_aload_n (pc := 18) hX 0 rfl rfl dX4_insert_18 ?_
      refine q_get (pc := 19) (id := t) (ci := 4) (N := 3) (T := TX4) (C := RX4) hX 0 (tb_lt ht) (ob_T ht.1 _ _) rfl in_X4 (by decide) (Or.inl kw_35) rfl dX4_insert_19 ?_
      refine q_imul (pc := 22) hX dX4_insert_22 ?_
      refine q_aload_n (pc := 23) hX 0 rfl rfl dX4_insert_23 ?_
      refine q_get (pc := 24) (id := t) (ci := 4) (N := 3) (T := TX4) (C := RX4) hX 1 (tb_lt ht) (ob_T ht.1 _ _) rfl in_X4 (by decide) (Or.inl kw_36) rfl dX4_insert_24 ?_
      refine r_alen (pc := 27) (id := (t + 1)) (n := (tl t)) hX (nI (tl t)) (tb_lt1 ht) (fun f g => ob_C ht.1 f g) rfl dX4_insert_27 ?_
      refine q_icmp_le (pc := 28) hX 32 (by decide) dX4_insert_28 (fun c => ?_) (fun c => ?_)
      · rw [if_pos c] at hE
        refine q_aload_n (pc := 32) hX 0 rfl rfl dX4_insert_32 ?_
        refine q_get (pc := 33) (id := t) (ci := 4) (N := 3) (T := TX4) (C := RX4) hX 2 (tb_lt ht) (ob_T ht.1 _ _) rfl in_X4 (by decide) (Or.inl kw_37) rfl dX4_insert_33 ?_
        refine q_iconst (pc := 36) hX (1) rfl dX4_insert_36 ?_
        refine q_iadd (pc := 37) hX dX4_insert_37 ?_
        refine q_aload_n (pc := 38) hX 0 rfl rfl dX4_insert_38 ?_
        refine q_get (pc := 39) (id := t) (ci := 4) (N := 3) (T := TX4) (C := RX4) hX 0 (tb_lt ht) (ob_T ht.1 _ _) rfl in_X4 (by decide) (Or.inl kw_35) rfl dX4_insert_39 ?_
        refine q_imul (pc := 42) hX dX4_insert_42 ?_
        refine q_iconst (pc := 43) hX (1) rfl dX4_insert_43 ?_
        refine q_isub (pc := 44) hX dX4_insert_44 ?_
        refine q_nm (fun z1 hz1 => ?_)
        have hE := bnd_nm hz1 hE
        refine q_istore_n (pc := 45) (lo' := [(0, .ref (o t)), (1, .int x1), (2, .int z1)]) hX [1, 2, 0] rfl (by decide) rfl dX4_insert_45 ?_
        obtain ⟨p7, hp7, hE⟩ := ob_bind hE
        refine l_X4_insert_46 hX hE0 ht FU _ _ p7 hp7 ?_
        refine q_aload_n (pc := 81) hX 0 rfl rfl dX4_insert_81 ?_
        refine q_dup (pc := 82) hX rfl dX4_insert_82 ?_
        refine q_get (pc := 83) (id := t) (ci := 4) (N := 3) (T := TX4) (C := RX4) hX 2 (tb_lt ht) (ob_T ht.1 _ _) rfl in_X4 (by decide) (Or.inl kw_37) rfl dX4_insert_83 ?_
        refine q_iconst (pc := 86) hX (1) rfl dX4_insert_86 ?_
        refine q_iadd (pc := 87) hX dX4_insert_87 ?_
        obtain ⟨M8, hM8⟩ : ∃ z : Mem, z = mst p7.2 t 2 ((p7.2 t 2) + 1) := ⟨_, rfl⟩
        have hE := bnd_nm hM8 hE
        refine pu_T_rows (pc := 88) hX ht hM8 (Or.inl kw_37) dX4_insert_88 ?_
        cases hE
        exact q_vret hX hR (by decide) (by decide) dX4_insert_91
      · rw [if_neg c] at hE
        cases hE
        exact q_vret hX hR (by decide) (by decide) dX4_insert_31

set_option maxHeartbeats 4000000 in
theorem c_X4_set {Y : Lx} {o : Nat → Nat} {hn : Nat} {M : Mem} {G : Mel} {t : Nat} {x1 : Int32} {x2 : Int32} {x3 : Int32} {Mr : Mem} (ht : tb hn t) (hE : s_X4_set M t x1 x2 x3 = some (Mr)) : MI Y yX4_set cX4_set 5 none 0 0 0 0 [.ref (o t), .int x1, .int x2, .int x3] o hn M G (.inl (none)) Mr G := by
  refine MI.of (by decide +kernel) (Nat.le_of_ble_eq_true rfl) (fun X hY hX hE0 hR => ?_)
  change CxOK X RX4 cX4_set 5 0 0 0 0 none at hX
  show WM X o hn M G 0 0 0 5 [(0, .ref (o t)), (1, .int x1), (2, .int x2), (3, .int x3)] []
  unfold s_X4_set at hE
  refine q_iload_n (pc := 0) hX 1 rfl rfl dX4_set_0 ?_
  refine q_if_lt (pc := 1) hX 24 (by decide) dX4_set_1 (fun c => ?_) (fun c => ?_)
  · rw [if_pos c] at hE
    cases hE
    exact q_vret hX hR (by decide) (by decide) dX4_set_24
  · rw [if_neg c] at hE
    refine q_iload_n (pc := 4) hX 1 rfl rfl dX4_set_4 ?_
    refine q_aload_n (pc := 5) hX 0 rfl rfl dX4_set_5 ?_
    refine q_get (pc := 6) (id := t) (ci := 4) (N := 3) (T := TX4) (C := RX4) hX 2 (tb_lt ht) (ob_T ht.1 _ _) rfl in_X4 (by decide) (Or.inl kw_37) rfl dX4_set_6 ?_
    refine q_icmp_ge (pc := 9) hX 24 (by decide) dX4_set_9 (fun c => ?_) (fun c => ?_)
    · rw [if_pos c] at hE
      cases hE
      exact q_vret hX hR (by decide) (by decide) dX4_set_24
    · rw [if_neg c] at hE
      refine q_iload_n (pc := 12) hX 2 rfl rfl dX4_set_12 ?_
      refine q_if_lt (pc := 13) hX 24 (by decide) dX4_set_13 (fun c => ?_) (fun c => ?_)
      · rw [if_pos c] at hE
        cases hE
        exact q_vret hX hR (by decide) (by decide) dX4_set_24
      · rw [if_neg c] at hE
        refine q_iload_n (pc := 16) hX 2 rfl rfl dX4_set_16 ?_
        refine q_aload_n (pc := 17) hX 0 rfl rfl dX4_set_17 ?_
        refine q_get (pc := 18) (id := t) (ci := 4) (N := 3) (T := TX4) (C := RX4) hX 0 (tb_lt ht) (ob_T ht.1 _ _) rfl in_X4 (by decide) (Or.inl kw_35) rfl dX4_set_18 ?_
        refine q_icmp_lt (pc := 21) hX 25 (by decide) dX4_set_21 (fun c => ?_) (fun c => ?_)
        · rw [if_pos c] at hE
          refine q_iload_n (pc := 25) hX 1 rfl rfl dX4_set_25 ?_
          refine q_aload_n (pc := 26) hX 0 rfl rfl dX4_set_26 ?_
          refine q_get (pc := 27) (id := t) (ci := 4) (N := 3) (T := TX4) (C := RX4) hX 0 (tb_lt ht) (ob_T ht.1 _ _) rfl in_X4 (by decide) (Or.inl kw_35) rfl dX4_set_27 ?_
          refine q_imul (pc := 30) hX dX4_set_30 ?_
          refine q_iload_n (pc := 31) hX 2 rfl rfl dX4_set_31 ?_
          refine q_iadd (pc := 32) hX dX4_set_32 ?_
          refine q_nm (fun z1 hz1 => ?_)
          have hE := bnd_nm hz1 hE
          refine q_istore (pc := 33) (lo' := [(0, .ref (o t)), (1, .int x1), (2, .int x2), (3, .int x3), (4, .int z1)]) hX [1, 2, 3, 4, 0] (by decide) rfl dX4_set_33 ?_
          refine q_iload (pc := 35) hX 4 rfl dX4_set_35 ?_
          refine q_if_lt (pc := 37) hX 58 (by decide) dX4_set_37 (fun c => ?_) (fun c => ?_)
          · rw [if_pos c] at hE
            cases hE
            exact q_vret hX hR (by decide) (by decide) dX4_set_58
          · rw [if_neg c] at hE
            refine q_iload (pc := 40) hX 4 rfl dX4_set_40 ?_
            refine q_aload_n (pc := 42) hX 0 rfl rfl dX4_set_42 ?_
            refine q_get (pc := 43) (id := t) (ci := 4) (N := 3) (T := TX4) (C := RX4) hX 1 (tb_lt ht) (ob_T ht.1 _ _) rfl in_X4 (by decide) (Or.inl kw_36) rfl dX4_set_43 ?_
            refine r_alen (pc := 46) (id := (t + 1)) (n := (tl t)) hX (nI (tl t)) (tb_lt1 ht) (fun f g => ob_C ht.1 f g) rfl dX4_set_46 ?_
            refine q_icmp_ge (pc := 47) hX 58 (by decide) dX4_set_47 (fun c => ?_) (fun c => ?_)
            · rw [if_pos c] at hE
              cases hE
              exact q_vret hX hR (by decide) (by decide) dX4_set_58
            · rw [if_neg c] at hE
              refine q_aload_n (pc := 50) hX 0 rfl rfl dX4_set_50 ?_
              refine q_get (pc := 51) (id := t) (ci := 4) (N := 3) (T := TX4) (C := RX4) hX 1 (tb_lt ht) (ob_T ht.1 _ _) rfl in_X4 (by decide) (Or.inl kw_36) rfl dX4_set_51 ?_
              refine q_iload (pc := 54) hX 4 rfl dX4_set_54 ?_
              refine q_iload_n (pc := 56) hX 3 rfl rfl dX4_set_56 ?_
              obtain ⟨M2, hM2, hE⟩ := ob_bind hE
              refine r_iast (pc := 57) (id := (t + 1)) (n := (tl t)) hX (tb_lt1 ht) (fun f g => ob_C ht.1 f g) hM2 dX4_set_57 ?_
              cases hE
              exact q_vret hX hR (by decide) (by decide) dX4_set_58
        · rw [if_neg c] at hE
          cases hE
          exact q_vret hX hR (by decide) (by decide) dX4_set_24

set_option maxHeartbeats 4000000 in
theorem c_X4_addSpan {Y : Lx} {o : Nat → Nat} {hn : Nat} {M : Mem} {G : Mel} {t : Nat} {x1 : Int32} {x2 : Int32} {Mr : Mem} (ht : tb hn t) (hE : s_X4_addSpan M t x1 x2 = some (Mr)) : MI Y yX4_addSpan cX4_addSpan 4 none 1 24 0 0 [.ref (o t), .int x1, .int x2] o hn M G (.inl (none)) Mr G := by
  refine MI.of (by decide +kernel) (Nat.le_of_ble_eq_true rfl) (fun X hY hX hE0 hR => ?_)
  change CxOK X RX4 cX4_addSpan 4 1 24 0 0 none at hX
  show WM X o hn M G 0 0 0 4 [(0, .ref (o t)), (1, .int x1), (2, .int x2)] []
  unfold s_X4_addSpan at hE
  refine q_aload_n (pc := 0) hX 0 rfl rfl dX4_addSpan_0 ?_
  refine q_get (pc := 1) (id := t) (ci := 4) (N := 3) (T := TX4) (C := RX4) hX 2 (tb_lt ht) (ob_T ht.1 _ _) rfl in_X4 (by decide) (Or.inl kw_37) rfl dX4_addSpan_1 ?_
  refine q_nm (fun z1 hz1 => ?_)
  have hE := bnd_nm hz1 hE
  refine q_istore_n (pc := 4) (lo' := [(0, .ref (o t)), (1, .int x1), (2, .int x2), (3, .int z1)]) hX [1, 2, 3, 0] rfl (by decide) rfl dX4_addSpan_4 ?_
  refine q_aload_n (pc := 5) hX 0 rfl rfl dX4_addSpan_5 ?_
  refine q_iload_n (pc := 6) hX 3 rfl rfl dX4_addSpan_6 ?_
  obtain ⟨r2, hr2, hE⟩ := ob_bind hE
  refine q_callV (pc := 7) (id := t) (As := [.int z1]) (rest := []) (rv := none) (st' := []) hX (c_X4_insert ht hr2) (vl_X4_22) (tb_lt ht) (ob_T ht.1 _ _) rfl rfl pd_yX4_insert rfl ⟨by decide, by decide⟩ ⟨Nat.le_of_ble_eq_true rfl, Nat.le_of_ble_eq_true rfl⟩ rfl (Nat.le_of_ble_eq_true rfl) rfl dX4_addSpan_7 ?_
  refine q_aload_n (pc := 10) hX 0 rfl rfl dX4_addSpan_10 ?_
  refine q_iload_n (pc := 11) hX 3 rfl rfl dX4_addSpan_11 ?_
  refine q_iconst (pc := 12) hX (0) rfl dX4_addSpan_12 ?_
  refine q_iload_n (pc := 13) hX 1 rfl rfl dX4_addSpan_13 ?_
  obtain ⟨r3, hr3, hE⟩ := ob_bind hE
  refine q_callV (pc := 14) (id := t) (As := [.int z1, .int 0, .int x1]) (rest := []) (rv := none) (st' := []) hX (c_X4_set ht hr3) (vl_X4_26) (tb_lt ht) (ob_T ht.1 _ _) rfl rfl pd_yX4_set rfl ⟨by decide, by decide⟩ ⟨Nat.le_of_ble_eq_true rfl, Nat.le_of_ble_eq_true rfl⟩ rfl (Nat.le_of_ble_eq_true rfl) rfl dX4_addSpan_14 ?_
  refine q_aload_n (pc := 17) hX 0 rfl rfl dX4_addSpan_17 ?_
  refine q_iload_n (pc := 18) hX 3 rfl rfl dX4_addSpan_18 ?_
  refine q_iconst (pc := 19) hX (1) rfl dX4_addSpan_19 ?_
  refine q_iload_n (pc := 20) hX 2 rfl rfl dX4_addSpan_20 ?_
  obtain ⟨r4, hr4, hE⟩ := ob_bind hE
  refine q_callV (pc := 21) (id := t) (As := [.int z1, .int 1, .int x2]) (rest := []) (rv := none) (st' := []) hX (c_X4_set ht hr4) (vl_X4_26) (tb_lt ht) (ob_T ht.1 _ _) rfl rfl pd_yX4_set rfl ⟨by decide, by decide⟩ ⟨Nat.le_of_ble_eq_true rfl, Nat.le_of_ble_eq_true rfl⟩ rfl (Nat.le_of_ble_eq_true rfl) rfl dX4_addSpan_21 ?_
  cases hE
  exact q_vret hX hR (by decide) (by decide) dX4_addSpan_24

set_option maxHeartbeats 4000000 in
theorem c_X4_clear {Y : Lx} {o : Nat → Nat} {hn : Nat} {M : Mem} {G : Mel} {t : Nat} {Mr : Mem} (ht : tb hn t) (hE : s_X4_clear M t = some (Mr)) : MI Y yX4_clear cX4_clear 1 none 0 0 0 0 [.ref (o t)] o hn M G (.inl (none)) Mr G := by
  refine MI.of (by decide +kernel) (Nat.le_of_ble_eq_true rfl) (fun X hY hX hE0 hR => ?_)
  change CxOK X RX4 cX4_clear 1 0 0 0 0 none at hX
  show WM X o hn M G 0 0 0 1 [(0, .ref (o t))] []
  unfold s_X4_clear at hE
  refine q_aload_n (pc := 0) hX 0 rfl rfl dX4_clear_0 ?_
  refine q_iconst (pc := 1) hX (0) rfl dX4_clear_1 ?_
  obtain ⟨M1, hM1⟩ : ∃ z : Mem, z = mst M t 2 0 := ⟨_, rfl⟩
  have hE := bnd_nm hM1 hE
  refine pu_T_rows (pc := 2) hX ht hM1 (Or.inl kw_37) dX4_clear_2 ?_
  cases hE
  exact q_vret hX hR (by decide) (by decide) dX4_clear_5

set_option maxHeartbeats 4000000 in
theorem c_X4_get {Y : Lx} {o : Nat → Nat} {hn : Nat} {M : Mem} {G : Mel} {t : Nat} {x1 : Int32} {x2 : Int32} {rr : Int32} (ht : tb hn t) (hE : s_X4_get M t x1 x2 = some (rr)) : MI Y yX4_get cX4_get 4 (some .int) 0 0 0 0 [.ref (o t), .int x1, .int x2] o hn M G (.inl (some (.int rr))) M G := by
  refine MI.of (by decide +kernel) (Nat.le_of_ble_eq_true rfl) (fun X hY hX hE0 hR => ?_)
  change CxOK X RX4 cX4_get 4 0 0 0 0 (some .int) at hX
  show WM X o hn M G 0 0 0 4 [(0, .ref (o t)), (1, .int x1), (2, .int x2)] []
  unfold s_X4_get at hE
  refine q_iload_n (pc := 0) hX 1 rfl rfl dX4_get_0 ?_
  refine q_if_lt (pc := 1) hX 24 (by decide) dX4_get_1 (fun c => ?_) (fun c => ?_)
  · rw [if_pos c] at hE
    refine q_iconst (pc := 24) hX (0) rfl dX4_get_24 ?_
    cases hE
    exact q_iret hX hR (by decide) (by decide) dX4_get_25
  · rw [if_neg c] at hE
    refine q_iload_n (pc := 4) hX 1 rfl rfl dX4_get_4 ?_
    refine q_aload_n (pc := 5) hX 0 rfl rfl dX4_get_5 ?_
    refine q_get (pc := 6) (id := t) (ci := 4) (N := 3) (T := TX4) (C := RX4) hX 2 (tb_lt ht) (ob_T ht.1 _ _) rfl in_X4 (by decide) (Or.inl kw_37) rfl dX4_get_6 ?_
    refine q_icmp_ge (pc := 9) hX 24 (by decide) dX4_get_9 (fun c => ?_) (fun c => ?_)
    · rw [if_pos c] at hE
      refine q_iconst (pc := 24) hX (0) rfl dX4_get_24 ?_
      cases hE
      exact q_iret hX hR (by decide) (by decide) dX4_get_25
    · rw [if_neg c] at hE
      refine q_iload_n (pc := 12) hX 2 rfl rfl dX4_get_12 ?_
      refine q_if_lt (pc := 13) hX 24 (by decide) dX4_get_13 (fun c => ?_) (fun c => ?_)
      · rw [if_pos c] at hE
        refine q_iconst (pc := 24) hX (0) rfl dX4_get_24 ?_
        cases hE
        exact q_iret hX hR (by decide) (by decide) dX4_get_25
      · rw [if_neg c] at hE
        refine q_iload_n (pc := 16) hX 2 rfl rfl dX4_get_16 ?_
        refine q_aload_n (pc := 17) hX 0 rfl rfl dX4_get_17 ?_
        refine q_get (pc := 18) (id := t) (ci := 4) (N := 3) (T := TX4) (C := RX4) hX 0 (tb_lt ht) (ob_T ht.1 _ _) rfl in_X4 (by decide) (Or.inl kw_35) rfl dX4_get_18 ?_
        refine q_icmp_lt (pc := 21) hX 26 (by decide) dX4_get_21 (fun c => ?_) (fun c => ?_)
        · rw [if_pos c] at hE
          refine q_iload_n (pc := 26) hX 1 rfl rfl dX4_get_26 ?_
          refine q_aload_n (pc := 27) hX 0 rfl rfl dX4_get_27 ?_
          refine q_get (pc := 28) (id := t) (ci := 4) (N := 3) (T := TX4) (C := RX4) hX 0 (tb_lt ht) (ob_T ht.1 _ _) rfl in_X4 (by decide) (Or.inl kw_35) rfl dX4_get_28 ?_
          refine q_imul (pc := 31) hX dX4_get_31 ?_
          refine q_iload_n (pc := 32) hX 2 rfl rfl dX4_get_32 ?_
          refine q_iadd (pc := 33) hX dX4_get_33 ?_
          refine q_nm (fun z1 hz1 => ?_)
          have hE := bnd_nm hz1 hE
          refine q_istore_n (pc := 34) (lo' := [(0, .ref (o t)), (1, .int x1), (2, .int x2), (3, .int z1)]) hX [1, 2, 3, 0] rfl (by decide) rfl dX4_get_34 ?_
          refine q_iload_n (pc := 35) hX 3 rfl rfl dX4_get_35 ?_
          refine q_if_lt (pc := 36) hX 57 (by decide) dX4_get_36 (fun c => ?_) (fun c => ?_)
          · rw [if_pos c] at hE
            refine q_iconst (pc := 57) hX (0) rfl dX4_get_57 ?_
            cases hE
            exact q_iret hX hR (by decide) (by decide) dX4_get_58
          · rw [if_neg c] at hE
            refine q_iload_n (pc := 39) hX 3 rfl rfl dX4_get_39 ?_
            refine q_aload_n (pc := 40) hX 0 rfl rfl dX4_get_40 ?_
            refine q_get (pc := 41) (id := t) (ci := 4) (N := 3) (T := TX4) (C := RX4) hX 1 (tb_lt ht) (ob_T ht.1 _ _) rfl in_X4 (by decide) (Or.inl kw_36) rfl dX4_get_41 ?_
            refine r_alen (pc := 44) (id := (t + 1)) (n := (tl t)) hX (nI (tl t)) (tb_lt1 ht) (fun f g => ob_C ht.1 f g) rfl dX4_get_44 ?_
            refine q_icmp_ge (pc := 45) hX 57 (by decide) dX4_get_45 (fun c => ?_) (fun c => ?_)
            · rw [if_pos c] at hE
              refine q_iconst (pc := 57) hX (0) rfl dX4_get_57 ?_
              cases hE
              exact q_iret hX hR (by decide) (by decide) dX4_get_58
            · rw [if_neg c] at hE
              refine q_aload_n (pc := 48) hX 0 rfl rfl dX4_get_48 ?_
              refine q_get (pc := 49) (id := t) (ci := 4) (N := 3) (T := TX4) (C := RX4) hX 1 (tb_lt ht) (ob_T ht.1 _ _) rfl in_X4 (by decide) (Or.inl kw_36) rfl dX4_get_49 ?_
              refine q_iload_n (pc := 52) hX 3 rfl rfl dX4_get_52 ?_
              obtain ⟨v2, hv2, hE⟩ := ob_bind hE
              refine r_iald (pc := 53) (id := (t + 1)) (n := (tl t)) hX (tb_lt1 ht) (fun f g => ob_C ht.1 f g) hv2 dX4_get_53 ?_
              refine q_goto (pc := 54) hX 58 (by decide) dX4_get_54 ?_
              cases hE
              exact q_iret hX hR (by decide) (by decide) dX4_get_58
        · rw [if_neg c] at hE
          refine q_iconst (pc := 24) hX (0) rfl dX4_get_24 ?_
          cases hE
          exact q_iret hX hR (by decide) (by decide) dX4_get_25

set_option maxHeartbeats 4000000 in
theorem c_X0_beginNextWeek {Y : Lx} {o : Nat → Nat} {hn : Nat} {M : Mem} {G : Mel} {e : Nat} {x1 : Int32} {Mr : Mem} {Gr : Mel} (he : em hn e) (hE : s_X0_beginNextWeek M G e x1 = some (Mr, Gr)) : MI Y yX0_beginNextWeek cX0_beginNextWeek 2 none 1 20 0 0 [.ref (o e), .int x1] o hn M G (.inl (none)) Mr Gr := by
  refine MI.of (by decide +kernel) (Nat.le_of_ble_eq_true rfl) (fun X hY hX hE0 hR => ?_)
  change CxOK X RX0 cX0_beginNextWeek 2 1 20 0 0 none at hX
  show WM X o hn M G 0 0 0 2 [(0, .ref (o e)), (1, .int x1)] []
  unfold s_X0_beginNextWeek at hE
  refine q_aload_n (pc := 0) hX 0 rfl rfl dX0_beginNextWeek_0 ?_
  refine q_dup (pc := 1) hX rfl dX0_beginNextWeek_1 ?_
  refine q_get (pc := 2) (id := e) (ci := 0) (N := 6) (T := TX0) (C := RX0) hX 2 (em_lt he) (ob_E he _ _) rfl in_X0 (by decide) (Or.inl kw_99) rfl dX0_beginNextWeek_2 ?_
  refine q_iload_n (pc := 5) hX 1 rfl rfl dX0_beginNextWeek_5 ?_
  refine q_i2l (pc := 6) hX dX0_beginNextWeek_6 ?_
  refine q_ladd (pc := 7) hX dX0_beginNextWeek_7 ?_
  obtain ⟨G1, hG1⟩ : ∃ z : Mel, z = mstL G e 2 ((G e 2) + x1.toInt64) := ⟨_, rfl⟩
  have hE := bnd_nm hG1 hE
  refine pu_E_earn (pc := 8) hX he hG1 (Or.inl kw_99) dX0_beginNextWeek_8 ?_
  refine q_aload_n (pc := 11) hX 0 rfl rfl dX0_beginNextWeek_11 ?_
  refine q_dup (pc := 12) hX rfl dX0_beginNextWeek_12 ?_
  refine q_get (pc := 13) (id := e) (ci := 0) (N := 6) (T := TX0) (C := RX0) hX 1 (em_lt he) (ob_E he _ _) rfl in_X0 (by decide) (Or.inl kw_98) rfl dX0_beginNextWeek_13 ?_
  refine q_iconst (pc := 16) hX (1) rfl dX0_beginNextWeek_16 ?_
  refine q_iadd (pc := 17) hX dX0_beginNextWeek_17 ?_
  obtain ⟨M2, hM2⟩ : ∃ z : Mem, z = mst M e 1 ((M e 1) + 1) := ⟨_, rfl⟩
  have hE := bnd_nm hM2 hE
  refine pu_E_weeks (pc := 18) hX he hM2 (Or.inl kw_98) dX0_beginNextWeek_18 ?_
  refine q_aload_n (pc := 21) hX 0 rfl rfl dX0_beginNextWeek_21 ?_
  refine q_get (pc := 22) (id := e) (ci := 0) (N := 6) (T := TX0) (C := RX0) hX 3 (em_lt he) (ob_E he _ _) rfl in_X0 (by decide) (Or.inl kw_101) rfl dX0_beginNextWeek_22 ?_
  obtain ⟨r3, hr3, hE⟩ := ob_bind hE
  refine q_callV (pc := 25) (id := (e + 1)) (As := []) (rest := []) (rv := none) (st' := []) hX (c_X4_clear (tb_e1 he) hr3) (vl_X0_37) (tb_lt (tb_e1 he)) (ob_T (tb_e1 he).1 _ _) rfl rfl pd_yX4_clear rfl ⟨by decide, by decide⟩ ⟨Nat.le_of_ble_eq_true rfl, Nat.le_of_ble_eq_true rfl⟩ rfl (Nat.le_of_ble_eq_true rfl) rfl dX0_beginNextWeek_25 ?_
  refine q_aload_n (pc := 28) hX 0 rfl rfl dX0_beginNextWeek_28 ?_
  refine q_get (pc := 29) (id := e) (ci := 0) (N := 6) (T := TX0) (C := RX0) hX 4 (em_lt he) (ob_E he _ _) rfl in_X0 (by decide) (Or.inl kw_102) rfl dX0_beginNextWeek_29 ?_
  obtain ⟨r4, hr4, hE⟩ := ob_bind hE
  refine q_callV (pc := 32) (id := (e + 3)) (As := []) (rest := []) (rv := none) (st' := []) hX (c_X4_clear (tb_e3 he) hr4) (vl_X0_37) (tb_lt (tb_e3 he)) (ob_T (tb_e3 he).1 _ _) rfl rfl pd_yX4_clear rfl ⟨by decide, by decide⟩ ⟨Nat.le_of_ble_eq_true rfl, Nat.le_of_ble_eq_true rfl⟩ rfl (Nat.le_of_ble_eq_true rfl) rfl dX0_beginNextWeek_32 ?_
  refine q_aload_n (pc := 35) hX 0 rfl rfl dX0_beginNextWeek_35 ?_
  refine q_get (pc := 36) (id := e) (ci := 0) (N := 6) (T := TX0) (C := RX0) hX 5 (em_lt he) (ob_E he _ _) rfl in_X0 (by decide) (Or.inl kw_103) rfl dX0_beginNextWeek_36 ?_
  obtain ⟨r5, hr5, hE⟩ := ob_bind hE
  refine q_callV (pc := 39) (id := (e + 5)) (As := []) (rest := []) (rv := none) (st' := []) hX (c_X4_clear (tb_e5 he) hr5) (vl_X0_37) (tb_lt (tb_e5 he)) (ob_T (tb_e5 he).1 _ _) rfl rfl pd_yX4_clear rfl ⟨by decide, by decide⟩ ⟨Nat.le_of_ble_eq_true rfl, Nat.le_of_ble_eq_true rfl⟩ rfl (Nat.le_of_ble_eq_true rfl) rfl dX0_beginNextWeek_39 ?_
  cases hE
  exact q_vret hX hR (by decide) (by decide) dX0_beginNextWeek_42
end
section
set_option maxHeartbeats 4000000 in
theorem c_X3_isIn {Y : Lx} {o : Nat → Nat} {hn : Nat} {M : Mem} {G : Mel} {t0 : Nat} {x1 : Int32} {rr : Int32} (ht0 : tb hn t0) (hE : s_X3_isIn M t0 x1 = some (rr)) : MI Y yX3_isIn cX3_isIn 2 (some .boolean) 1 23 0 0 [.ref (o t0), .int x1] o hn M G (.inl (some (.int rr))) M G := by
  refine MI.of (by decide +kernel) (Nat.le_of_ble_eq_true rfl) (fun X hY hX hE0 hR => ?_)
  change CxOK X RX3 cX3_isIn 2 1 23 0 0 (some .boolean) at hX
  show WM X o hn M G 0 0 0 2 [(0, .ref (o t0)), (1, .int x1)] []
  unfold s_X3_isIn at hE
  refine q_aload_n (pc := 0) hX 0 rfl rfl dX3_isIn_0 ?_
  refine q_iload_n (pc := 1) hX 1 rfl rfl dX3_isIn_1 ?_
  refine q_iconst (pc := 2) hX (1) rfl dX3_isIn_2 ?_
  obtain ⟨r1, hr1, hE⟩ := ob_bind hE
  refine q_callV (pc := 3) (id := t0) (As := [.int x1, .int 1]) (rest := []) (rv := some (.int r1)) (st' := [.int r1]) hX (c_X4_get ht0 hr1) (vl_X3_42) (tb_lt ht0) (ob_T ht0.1 _ _) rfl rfl pd_yX4_get rfl ⟨by decide, by decide⟩ ⟨Nat.le_of_ble_eq_true rfl, Nat.le_of_ble_eq_true rfl⟩ rfl (Nat.le_of_ble_eq_true rfl) rfl dX3_isIn_3 ?_
  refine q_iconst (pc := 6) hX (1) rfl dX3_isIn_6 ?_
  refine q_icmp_ne (pc := 7) hX 14 (by decide) dX3_isIn_7 (fun c => ?_) (fun c => ?_)
  · rw [if_neg c] at hE
    refine q_iconst (pc := 14) hX (0) rfl dX3_isIn_14 ?_
    cases hE
    exact q_zret hX (Or.inl rfl) hR (by decide) (by decide) dX3_isIn_15
  · rw [if_pos c] at hE
    refine q_iconst (pc := 10) hX (1) rfl dX3_isIn_10 ?_
    refine q_goto (pc := 11) hX 15 (by decide) dX3_isIn_11 ?_
    cases hE
    exact q_zret hX (Or.inr rfl) hR (by decide) (by decide) dX3_isIn_15

set_option maxHeartbeats 4000000 in
theorem c_X3_addFromIn {Y : Lx} {o : Nat → Nat} {hn : Nat} {M : Mem} {G : Mel} {t1 : Nat} {x2 : Int32} {Mr : Mem} (ht1 : tb hn t1) (hE : s_X3_addFromIn M t1 x2 = some (Mr)) : MI Y yX3_addFromIn cX3_addFromIn 6 none 2 47 0 0 [.ref (o 43), .ref (o t1), .int x2] o hn M G (.inl (none)) Mr G := by
  refine MI.of (by decide +kernel) (Nat.le_of_ble_eq_true rfl) (fun X hY hX hE0 hR => ?_)
  change CxOK X RX3 cX3_addFromIn 6 2 47 0 0 none at hX
  show WM X o hn M G 0 0 0 6 [(0, .ref (o 43)), (1, .ref (o t1)), (2, .int x2)] []
  unfold s_X3_addFromIn at hE
  refine q_aload_n (pc := 0) hX 1 rfl rfl dX3_addFromIn_0 ?_
  refine q_iload_n (pc := 1) hX 2 rfl rfl dX3_addFromIn_1 ?_
  refine q_iconst (pc := 2) hX (0) rfl dX3_addFromIn_2 ?_
  obtain ⟨r1, hr1, hE⟩ := ob_bind hE
  refine q_callV (pc := 3) (id := t1) (As := [.int x2, .int 0]) (rest := []) (rv := some (.int r1)) (st' := [.int r1]) hX (c_X4_get ht1 hr1) (vl_X3_42) (tb_lt ht1) (ob_T ht1.1 _ _) rfl rfl pd_yX4_get rfl ⟨by decide, by decide⟩ ⟨Nat.le_of_ble_eq_true rfl, Nat.le_of_ble_eq_true rfl⟩ rfl (Nat.le_of_ble_eq_true rfl) rfl dX3_addFromIn_3 ?_
  refine q_istore_n (pc := 6) (lo' := [(0, .ref (o 43)), (1, .ref (o t1)), (2, .int x2), (3, .int r1)]) hX [1, 2, 3, 0] rfl (by decide) rfl dX3_addFromIn_6 ?_
  refine q_iload_n (pc := 7) hX 2 rfl rfl dX3_addFromIn_7 ?_
  refine q_iconst (pc := 8) hX (1) rfl dX3_addFromIn_8 ?_
  refine q_iadd (pc := 9) hX dX3_addFromIn_9 ?_
  refine q_aload_n (pc := 10) hX 1 rfl rfl dX3_addFromIn_10 ?_
  obtain ⟨r2, hr2, hE⟩ := ob_bind hE
  refine q_callV (pc := 11) (id := t1) (As := []) (rest := [.int (x2 + 1)]) (rv := some (.int r2)) (st' := [.int r2, .int (x2 + 1)]) hX (c_X4_size ht1 hr2) (vl_X3_27) (tb_lt ht1) (ob_T ht1.1 _ _) rfl rfl pd_yX4_size rfl ⟨by decide, by decide⟩ ⟨Nat.le_of_ble_eq_true rfl, Nat.le_of_ble_eq_true rfl⟩ rfl (Nat.le_of_ble_eq_true rfl) rfl dX3_addFromIn_11 ?_
  obtain ⟨p4, hp4, hE⟩ := bnd_ob hE
  suffices Jp4 : WM X o hn M G 0 0 22 6 [(0, .ref (o 43)), (1, .ref (o t1)), (2, .int x2), (3, .int r1)] [.int p4] by
    refine q_icmp_lt (pc := 14) hX 21 (by decide) dX3_addFromIn_14 (fun c => ?_) (fun c => ?_)
    · rw [if_pos c] at hp4
      refine q_iconst (pc := 21) hX (0) rfl dX3_addFromIn_21 ?_
      cases hp4
      exact Jp4
    · rw [if_neg c] at hp4
      refine q_iconst (pc := 17) hX (1) rfl dX3_addFromIn_17 ?_
      refine q_goto (pc := 18) hX 22 (by decide) dX3_addFromIn_18 ?_
      cases hp4
      exact Jp4
  refine q_istore (pc := 22) (lo' := [(0, .ref (o 43)), (1, .ref (o t1)), (2, .int x2), (3, .int r1), (4, .int p4)]) hX [1, 2, 3, 4, 0] (by decide) rfl dX3_addFromIn_22 ?_
  refine q_iload (pc := 24) hX 4 rfl dX3_addFromIn_24 ?_
  obtain ⟨p7, hp7, hE⟩ := ob_bind hE
  suffices Jp7 : WM X o hn M G 0 0 43 6 [(0, .ref (o 43)), (1, .ref (o t1)), (2, .int x2), (3, .int r1), (4, .int p4)] [.int p7] by
    refine q_if_eq (pc := 26) hX 35 (by decide) dX3_addFromIn_26 (fun c => ?_) (fun c => ?_)
    · rw [if_pos c] at hp7
      refine q_aload_n (pc := 35) hX 1 rfl rfl dX3_addFromIn_35 ?_
      refine q_iload_n (pc := 36) hX 2 rfl rfl dX3_addFromIn_36 ?_
      refine q_iconst (pc := 37) hX (1) rfl dX3_addFromIn_37 ?_
      refine q_iadd (pc := 38) hX dX3_addFromIn_38 ?_
      refine q_iconst (pc := 39) hX (0) rfl dX3_addFromIn_39 ?_
      obtain ⟨r6, hr6, hp7⟩ := ob_bind hp7
      refine q_callV (pc := 40) (id := t1) (As := [.int (x2 + 1), .int 0]) (rest := []) (rv := some (.int r6)) (st' := [.int r6]) hX (c_X4_get ht1 hr6) (vl_X3_42) (tb_lt ht1) (ob_T ht1.1 _ _) rfl rfl pd_yX4_get rfl ⟨by decide, by decide⟩ ⟨Nat.le_of_ble_eq_true rfl, Nat.le_of_ble_eq_true rfl⟩ rfl (Nat.le_of_ble_eq_true rfl) rfl dX3_addFromIn_40 ?_
      cases hp7
      exact Jp7
    · rw [if_neg c] at hp7
      refine q_sipush (pc := 29) hX (10080) (by decide) dX3_addFromIn_29 ?_
      refine q_goto (pc := 32) hX 43 (by decide) dX3_addFromIn_32 ?_
      cases hp7
      exact Jp7
  refine q_istore (pc := 43) (lo' := [(0, .ref (o 43)), (1, .ref (o t1)), (2, .int x2), (3, .int r1), (4, .int p4), (5, .int p7)]) hX [1, 2, 3, 4, 5, 0] (by decide) rfl dX3_addFromIn_43 ?_
  refine q_iload (pc := 45) hX 4 rfl dX3_addFromIn_45 ?_
  refine q_if_ne (pc := 47) hX 60 (by decide) dX3_addFromIn_47 (fun c => ?_) (fun c => ?_)
  · rw [if_neg c] at hE
    refine q_aload_n (pc := 60) hX 0 rfl rfl dX3_addFromIn_60 ?_
    refine q_dup (pc := 61) hX rfl dX3_addFromIn_61 ?_
    refine q_get (pc := 62) (id := 43) (ci := 3) (N := 2) (T := TX3) (C := RX3) hX 1 (lt46 (by decide)) rfl rfl in_X3 (by decide) (Or.inl kw_67) rfl dX3_addFromIn_62 ?_
    refine q_iconst (pc := 65) hX (1) rfl dX3_addFromIn_65 ?_
    refine q_iadd (pc := 66) hX dX3_addFromIn_66 ?_
    obtain ⟨M8, hM8⟩ : ∃ z : Mem, z = mst M 43 1 ((M 43 1) + 1) := ⟨_, rfl⟩
    have hE := bnd_nm hM8 hE
    refine pu_S_rep (pc := 67) hX hM8 (Or.inl kw_67) dX3_addFromIn_67 ?_
    refine q_aload_n (pc := 70) hX 0 rfl rfl dX3_addFromIn_70 ?_
    refine q_get (pc := 71) (id := 43) (ci := 3) (N := 2) (T := TX3) (C := RX3) hX 0 (lt46 (by decide)) rfl rfl in_X3 (by decide) (Or.inl kw_66) rfl dX3_addFromIn_71 ?_
    refine q_iload_n (pc := 74) hX 3 rfl rfl dX3_addFromIn_74 ?_
    refine q_iload_n (pc := 75) hX 3 rfl rfl dX3_addFromIn_75 ?_
    refine q_sipush (pc := 76) hX (480) (by decide) dX3_addFromIn_76 ?_
    refine q_iadd (pc := 79) hX dX3_addFromIn_79 ?_
    refine q_iload (pc := 80) hX 5 rfl dX3_addFromIn_80 ?_
    refine r_min (pc := 82) hX kw_190 kw_191 kw_192 kw_193 (by decide) (Nat.le_of_ble_eq_true rfl) (Nat.le_of_ble_eq_true rfl) (Nat.le_of_ble_eq_true rfl) dX3_addFromIn_82 ?_
    obtain ⟨r9, hr9, hE⟩ := ob_bind hE
    refine q_callV (pc := 85) (id := 44) (As := [.int r1, .int (if p7 < r1 + 480 then p7 else r1 + 480)]) (rest := []) (rv := none) (st' := []) hX (c_X4_addSpan (tb_44 hn) hr9) (vl_X3_51) (lt46 (by decide)) (ob_T (tb_44 hn).1 _ _) rfl rfl pd_yX4_addSpan rfl ⟨by decide, by decide⟩ ⟨Nat.le_of_ble_eq_true rfl, Nat.le_of_ble_eq_true rfl⟩ rfl (Nat.le_of_ble_eq_true rfl) rfl dX3_addFromIn_85 ?_
    refine q_goto (pc := 88) hX 101 (by decide) dX3_addFromIn_88 ?_
    cases hE
    exact q_vret hX hR (by decide) (by decide) dX3_addFromIn_101
  · rw [if_pos c] at hE
    refine q_aload_n (pc := 50) hX 1 rfl rfl dX3_addFromIn_50 ?_
    refine q_iload_n (pc := 51) hX 2 rfl rfl dX3_addFromIn_51 ?_
    refine q_iconst (pc := 52) hX (1) rfl dX3_addFromIn_52 ?_
    refine q_iadd (pc := 53) hX dX3_addFromIn_53 ?_
    obtain ⟨r10, hr10, hE⟩ := ob_bind hE
    refine q_callS (pc := 54) (As := [.ref (o t1), .int (x2 + 1)]) (rest := []) (rv := some (.int r10)) (st' := [.int r10]) hX (c_X3_isIn ht1 hr10) (sl_X3_31) pd_yX3_isIn rfl ⟨by decide, by decide⟩ ⟨Nat.le_of_ble_eq_true rfl, Nat.le_of_ble_eq_true rfl⟩ rfl (Nat.le_of_ble_eq_true rfl) rfl dX3_addFromIn_54 ?_
    refine q_if_eq (pc := 57) hX 91 (by decide) dX3_addFromIn_57 (fun c => ?_) (fun c => ?_)
    · rw [if_pos c] at hE
      refine q_aload_n (pc := 91) hX 0 rfl rfl dX3_addFromIn_91 ?_
      refine q_get (pc := 92) (id := 43) (ci := 3) (N := 2) (T := TX3) (C := RX3) hX 0 (lt46 (by decide)) rfl rfl in_X3 (by decide) (Or.inl kw_66) rfl dX3_addFromIn_92 ?_
      refine q_iload_n (pc := 95) hX 3 rfl rfl dX3_addFromIn_95 ?_
      refine q_iload (pc := 96) hX 5 rfl dX3_addFromIn_96 ?_
      obtain ⟨r11, hr11, hE⟩ := ob_bind hE
      refine q_callV (pc := 98) (id := 44) (As := [.int r1, .int p7]) (rest := []) (rv := none) (st' := []) hX (c_X4_addSpan (tb_44 hn) hr11) (vl_X3_51) (lt46 (by decide)) (ob_T (tb_44 hn).1 _ _) rfl rfl pd_yX4_addSpan rfl ⟨by decide, by decide⟩ ⟨Nat.le_of_ble_eq_true rfl, Nat.le_of_ble_eq_true rfl⟩ rfl (Nat.le_of_ble_eq_true rfl) rfl dX3_addFromIn_98 ?_
      cases hE
      exact q_vret hX hR (by decide) (by decide) dX3_addFromIn_101
    · rw [if_neg c] at hE
      refine q_aload_n (pc := 60) hX 0 rfl rfl dX3_addFromIn_60 ?_
      refine q_dup (pc := 61) hX rfl dX3_addFromIn_61 ?_
      refine q_get (pc := 62) (id := 43) (ci := 3) (N := 2) (T := TX3) (C := RX3) hX 1 (lt46 (by decide)) rfl rfl in_X3 (by decide) (Or.inl kw_67) rfl dX3_addFromIn_62 ?_
      refine q_iconst (pc := 65) hX (1) rfl dX3_addFromIn_65 ?_
      refine q_iadd (pc := 66) hX dX3_addFromIn_66 ?_
      obtain ⟨M12, hM12⟩ : ∃ z : Mem, z = mst M 43 1 ((M 43 1) + 1) := ⟨_, rfl⟩
      have hE := bnd_nm hM12 hE
      refine pu_S_rep (pc := 67) hX hM12 (Or.inl kw_67) dX3_addFromIn_67 ?_
      refine q_aload_n (pc := 70) hX 0 rfl rfl dX3_addFromIn_70 ?_
      refine q_get (pc := 71) (id := 43) (ci := 3) (N := 2) (T := TX3) (C := RX3) hX 0 (lt46 (by decide)) rfl rfl in_X3 (by decide) (Or.inl kw_66) rfl dX3_addFromIn_71 ?_
      refine q_iload_n (pc := 74) hX 3 rfl rfl dX3_addFromIn_74 ?_
      refine q_iload_n (pc := 75) hX 3 rfl rfl dX3_addFromIn_75 ?_
      refine q_sipush (pc := 76) hX (480) (by decide) dX3_addFromIn_76 ?_
      refine q_iadd (pc := 79) hX dX3_addFromIn_79 ?_
      refine q_iload (pc := 80) hX 5 rfl dX3_addFromIn_80 ?_
      refine r_min (pc := 82) hX kw_190 kw_191 kw_192 kw_193 (by decide) (Nat.le_of_ble_eq_true rfl) (Nat.le_of_ble_eq_true rfl) (Nat.le_of_ble_eq_true rfl) dX3_addFromIn_82 ?_
      obtain ⟨r13, hr13, hE⟩ := ob_bind hE
      refine q_callV (pc := 85) (id := 44) (As := [.int r1, .int (if p7 < r1 + 480 then p7 else r1 + 480)]) (rest := []) (rv := none) (st' := []) hX (c_X4_addSpan (tb_44 hn) hr13) (vl_X3_51) (lt46 (by decide)) (ob_T (tb_44 hn).1 _ _) rfl rfl pd_yX4_addSpan rfl ⟨by decide, by decide⟩ ⟨Nat.le_of_ble_eq_true rfl, Nat.le_of_ble_eq_true rfl⟩ rfl (Nat.le_of_ble_eq_true rfl) rfl dX3_addFromIn_85 ?_
      refine q_goto (pc := 88) hX 101 (by decide) dX3_addFromIn_88 ?_
      cases hE
      exact q_vret hX hR (by decide) (by decide) dX3_addFromIn_101

set_option maxHeartbeats 4000000 in
theorem c_X3_addFromLoneOut {Y : Lx} {o : Nat → Nat} {hn : Nat} {M : Mem} {G : Mel} {t1 : Nat} {x2 : Int32} {Mr : Mem} (ht1 : tb hn t1) (hE : s_X3_addFromLoneOut M t1 x2 = some (Mr)) : MI Y yX3_addFromLoneOut cX3_addFromLoneOut 5 none 2 47 0 0 [.ref (o 43), .ref (o t1), .int x2] o hn M G (.inl (none)) Mr G := by
  refine MI.of (by decide +kernel) (Nat.le_of_ble_eq_true rfl) (fun X hY hX hE0 hR => ?_)
  change CxOK X RX3 cX3_addFromLoneOut 5 2 47 0 0 none at hX
  show WM X o hn M G 0 0 0 5 [(0, .ref (o 43)), (1, .ref (o t1)), (2, .int x2)] []
  unfold s_X3_addFromLoneOut at hE
  refine q_aload_n (pc := 0) hX 1 rfl rfl dX3_addFromLoneOut_0 ?_
  refine q_iload_n (pc := 1) hX 2 rfl rfl dX3_addFromLoneOut_1 ?_
  refine q_iconst (pc := 2) hX (0) rfl dX3_addFromLoneOut_2 ?_
  obtain ⟨r1, hr1, hE⟩ := ob_bind hE
  refine q_callV (pc := 3) (id := t1) (As := [.int x2, .int 0]) (rest := []) (rv := some (.int r1)) (st' := [.int r1]) hX (c_X4_get ht1 hr1) (vl_X3_42) (tb_lt ht1) (ob_T ht1.1 _ _) rfl rfl pd_yX4_get rfl ⟨by decide, by decide⟩ ⟨Nat.le_of_ble_eq_true rfl, Nat.le_of_ble_eq_true rfl⟩ rfl (Nat.le_of_ble_eq_true rfl) rfl dX3_addFromLoneOut_3 ?_
  refine q_istore_n (pc := 6) (lo' := [(0, .ref (o 43)), (1, .ref (o t1)), (2, .int x2), (3, .int r1)]) hX [1, 2, 3, 0] rfl (by decide) rfl dX3_addFromLoneOut_6 ?_
  refine q_iload_n (pc := 7) hX 2 rfl rfl dX3_addFromLoneOut_7 ?_
  obtain ⟨p4, hp4, hE⟩ := ob_bind hE
  suffices Jp4 : WM X o hn M G 0 0 23 5 [(0, .ref (o 43)), (3, .int r1)] [.int p4] by
    refine q_if_ne (pc := 8) hX 15 (by decide) dX3_addFromLoneOut_8 (fun c => ?_) (fun c => ?_)
    · rw [if_neg c] at hp4
      refine q_aload_n (pc := 15) hX 1 rfl rfl dX3_addFromLoneOut_15 ?_
      refine q_iload_n (pc := 16) hX 2 rfl rfl dX3_addFromLoneOut_16 ?_
      refine q_iconst (pc := 17) hX (1) rfl dX3_addFromLoneOut_17 ?_
      refine q_isub (pc := 18) hX dX3_addFromLoneOut_18 ?_
      refine q_iconst (pc := 19) hX (0) rfl dX3_addFromLoneOut_19 ?_
      obtain ⟨r3, hr3, hp4⟩ := ob_bind hp4
      refine q_callV (pc := 20) (id := t1) (As := [.int (x2 - 1), .int 0]) (rest := []) (rv := some (.int r3)) (st' := [.int r3]) hX (c_X4_get ht1 hr3) (vl_X3_42) (tb_lt ht1) (ob_T ht1.1 _ _) rfl rfl pd_yX4_get rfl ⟨by decide, by decide⟩ ⟨Nat.le_of_ble_eq_true rfl, Nat.le_of_ble_eq_true rfl⟩ rfl (Nat.le_of_ble_eq_true rfl) rfl dX3_addFromLoneOut_20 ?_
      refine q_lo [0, 3] rfl ?_
      cases hp4
      exact Jp4
    · rw [if_pos c] at hp4
      refine q_iconst (pc := 11) hX (0) rfl dX3_addFromLoneOut_11 ?_
      refine q_goto (pc := 12) hX 23 (by decide) dX3_addFromLoneOut_12 ?_
      refine q_lo [0, 3] rfl ?_
      cases hp4
      exact Jp4
  refine q_istore (pc := 23) (lo' := [(0, .ref (o 43)), (3, .int r1), (4, .int p4)]) hX [1, 2, 0] (by decide) rfl dX3_addFromLoneOut_23 ?_
  refine q_aload_n (pc := 25) hX 0 rfl rfl dX3_addFromLoneOut_25 ?_
  refine q_dup (pc := 26) hX rfl dX3_addFromLoneOut_26 ?_
  refine q_get (pc := 27) (id := 43) (ci := 3) (N := 2) (T := TX3) (C := RX3) hX 1 (lt46 (by decide)) rfl rfl in_X3 (by decide) (Or.inl kw_67) rfl dX3_addFromLoneOut_27 ?_
  refine q_iconst (pc := 30) hX (1) rfl dX3_addFromLoneOut_30 ?_
  refine q_iadd (pc := 31) hX dX3_addFromLoneOut_31 ?_
  obtain ⟨M5, hM5⟩ : ∃ z : Mem, z = mst M 43 1 ((M 43 1) + 1) := ⟨_, rfl⟩
  have hE := bnd_nm hM5 hE
  refine pu_S_rep (pc := 32) hX hM5 (Or.inl kw_67) dX3_addFromLoneOut_32 ?_
  refine q_aload_n (pc := 35) hX 0 rfl rfl dX3_addFromLoneOut_35 ?_
  refine q_get (pc := 36) (id := 43) (ci := 3) (N := 2) (T := TX3) (C := RX3) hX 0 (lt46 (by decide)) rfl rfl in_X3 (by decide) (Or.inl kw_66) rfl dX3_addFromLoneOut_36 ?_
  refine q_iload_n (pc := 39) hX 1 rfl rfl dX3_addFromLoneOut_39 ?_
  refine q_sipush (pc := 40) hX (480) (by decide) dX3_addFromLoneOut_40 ?_
  refine q_isub (pc := 43) hX dX3_addFromLoneOut_43 ?_
  refine q_iload (pc := 44) hX 2 rfl dX3_addFromLoneOut_44 ?_
  refine r_max (pc := 46) hX kw_199 kw_200 kw_192 kw_201 (by decide) (Nat.le_of_ble_eq_true rfl) (Nat.le_of_ble_eq_true rfl) (Nat.le_of_ble_eq_true rfl) dX3_addFromLoneOut_46 ?_
  refine q_iload_n (pc := 49) hX 1 rfl rfl dX3_addFromLoneOut_49 ?_
  obtain ⟨r6, hr6, hE⟩ := ob_bind hE
  refine q_callV (pc := 50) (id := 44) (As := [.int (if r1 - 480 < p4 then p4 else r1 - 480), .int r1]) (rest := []) (rv := none) (st' := []) hX (c_X4_addSpan (tb_44 hn) hr6) (vl_X3_51) (lt46 (by decide)) (ob_T (tb_44 hn).1 _ _) rfl rfl pd_yX4_addSpan rfl ⟨by decide, by decide⟩ ⟨Nat.le_of_ble_eq_true rfl, Nat.le_of_ble_eq_true rfl⟩ rfl (Nat.le_of_ble_eq_true rfl) rfl dX3_addFromLoneOut_50 ?_
  cases hE
  exact q_vret hX hR (by decide) (by decide) dX3_addFromLoneOut_53

set_option maxHeartbeats 4000000 in
theorem l_X3_read_14 {X : Cx} (hX : CxOK X RX3 cX3_read 3 3 72 0 0 none) (hE0 : CxE X []) {o : Nat → Nat} {hn : Nat} {t1 : Nat} {G : Mel} (ht1 : tb hn t1) : ∀ (f : Nat) (y3 : Int32) (M4 : Mem) (p13 : Int32 × Mem), L_X3_read_14 t1 f y3 M4 = some p13 → WM X o hn p13.2 G 0 0 61 3 [(0, .ref (o 43)), (1, .ref (o t1)), (2, .int p13.1)] [] → WM X o hn M4 G 0 0 14 3 [(0, .ref (o 43)), (1, .ref (o t1)), (2, .int y3)] [] := by
  intro f
  induction f with
  | zero => intro y3 M4 p13 hE; simp [L_X3_read_14] at hE
  | succ f ih =>
    intro y3 M4 p13 hE hx
    rw [L_X3_read_14] at hE
    refine q_iload_n (pc := 14) hX 2 rfl rfl dX3_read_14 ?_
    refine q_aload_n (pc := 15) hX 1 rfl rfl dX3_read_15 ?_
    obtain ⟨r5, hr5, hE⟩ := ob_bind hE
    refine q_callV (pc := 16) (id := t1) (As := []) (rest := [.int y3]) (rv := some (.int r5)) (st' := [.int r5, .int y3]) hX (c_X4_size ht1 hr5) (vl_X3_27) (tb_lt ht1) (ob_T ht1.1 _ _) rfl rfl pd_yX4_size rfl ⟨by decide, by decide⟩ ⟨Nat.le_of_ble_eq_true rfl, Nat.le_of_ble_eq_true rfl⟩ rfl (Nat.le_of_ble_eq_true rfl) rfl dX3_read_16 ?_
    refine q_icmp_ge (pc := 19) hX 61 (by decide) dX3_read_19 (fun c => ?_) (fun c => ?_)
    · rw [if_pos c] at hE
      cases hE
      exact hx
    · rw [if_neg c] at hE
      refine q_aload_n (pc := 22) hX 1 rfl rfl dX3_read_22 ?_
      refine q_iload_n (pc := 23) hX 2 rfl rfl dX3_read_23 ?_
      obtain ⟨r6, hr6, hE⟩ := ob_bind hE
      refine q_callS (pc := 24) (As := [.ref (o t1), .int y3]) (rest := []) (rv := some (.int r6)) (st' := [.int r6]) hX (c_X3_isIn ht1 hr6) (sl_X3_31) pd_yX3_isIn rfl ⟨by decide, by decide⟩ ⟨Nat.le_of_ble_eq_true rfl, Nat.le_of_ble_eq_true rfl⟩ rfl (Nat.le_of_ble_eq_true rfl) rfl dX3_read_24 ?_
      obtain ⟨p11, hp11, hE⟩ := ob_bind hE
      suffices Jp11 : WM X o hn p11 G 0 0 55 3 [(0, .ref (o 43)), (1, .ref (o t1)), (2, .int y3)] [] by
        refine q_if_eq (pc := 27) hX 39 (by decide) dX3_read_27 (fun c => ?_) (fun c => ?_)
        · rw [if_pos c] at hp11
          refine q_aload_n (pc := 39) hX 1 rfl rfl dX3_read_39 ?_
          refine q_iload_n (pc := 40) hX 2 rfl rfl dX3_read_40 ?_
          refine q_iconst (pc := 41) hX (1) rfl dX3_read_41 ?_
          refine q_isub (pc := 42) hX dX3_read_42 ?_
          obtain ⟨r8, hr8, hp11⟩ := ob_bind hp11
          refine q_callS (pc := 43) (As := [.ref (o t1), .int (y3 - 1)]) (rest := []) (rv := some (.int r8)) (st' := [.int r8]) hX (c_X3_isIn ht1 hr8) (sl_X3_31) pd_yX3_isIn rfl ⟨by decide, by decide⟩ ⟨Nat.le_of_ble_eq_true rfl, Nat.le_of_ble_eq_true rfl⟩ rfl (Nat.le_of_ble_eq_true rfl) rfl dX3_read_43 ?_
          refine q_if_ne (pc := 46) hX 55 (by decide) dX3_read_46 (fun c => ?_) (fun c => ?_)
          · rw [if_neg c] at hp11
            cases hp11
            exact Jp11
          · rw [if_pos c] at hp11
            refine q_aload_n (pc := 49) hX 0 rfl rfl dX3_read_49 ?_
            refine q_aload_n (pc := 50) hX 1 rfl rfl dX3_read_50 ?_
            refine q_iload_n (pc := 51) hX 2 rfl rfl dX3_read_51 ?_
            obtain ⟨r9, hr9, hp11⟩ := ob_bind hp11
            refine q_callV (pc := 52) (id := 43) (As := [.ref (o t1), .int y3]) (rest := []) (rv := none) (st' := []) hX (c_X3_addFromLoneOut ht1 hr9) (vl_X3_39) (lt46 (by decide)) rfl rfl rfl pd_yX3_addFromLoneOut rfl ⟨by decide, by decide⟩ ⟨Nat.le_of_ble_eq_true rfl, Nat.le_of_ble_eq_true rfl⟩ rfl (Nat.le_of_ble_eq_true rfl) rfl dX3_read_52 ?_
            cases hp11
            exact Jp11
        · rw [if_neg c] at hp11
          refine q_aload_n (pc := 30) hX 0 rfl rfl dX3_read_30 ?_
          refine q_aload_n (pc := 31) hX 1 rfl rfl dX3_read_31 ?_
          refine q_iload_n (pc := 32) hX 2 rfl rfl dX3_read_32 ?_
          obtain ⟨r10, hr10, hp11⟩ := ob_bind hp11
          refine q_callV (pc := 33) (id := 43) (As := [.ref (o t1), .int y3]) (rest := []) (rv := none) (st' := []) hX (c_X3_addFromIn ht1 hr10) (vl_X3_35) (lt46 (by decide)) rfl rfl rfl pd_yX3_addFromIn rfl ⟨by decide, by decide⟩ ⟨Nat.le_of_ble_eq_true rfl, Nat.le_of_ble_eq_true rfl⟩ rfl (Nat.le_of_ble_eq_true rfl) rfl dX3_read_33 ?_
          refine q_goto (pc := 36) hX 55 (by decide) dX3_read_36 ?_
          cases hp11
          exact Jp11
      obtain ⟨z12, hz12⟩ : ∃ z : Int32, z = y3 + 1 := ⟨_, rfl⟩
      have hE := bnd_nm hz12 hE
      refine q_iinc (pc := 55) (lo' := [(0, .ref (o 43)), (1, .ref (o t1)), (2, .int z12)]) hX 2 z12 [1, 2, 0] rfl (by rw [hz12]; rfl) (by decide) rfl dX3_read_55 ?_
      refine q_goto (pc := 58) hX 14 (by decide) dX3_read_58 ?_
      exact ih _ _ p13 hE hx

set_option maxHeartbeats 4000000 in
theorem c_X3_read {Y : Lx} {o : Nat → Nat} {hn : Nat} {M : Mem} {G : Mel} {t1 : Nat} {Mr : Mem} (ht1 : tb hn t1) (hE : s_X3_read M t1 = some (Mr)) : MI Y yX3_read cX3_read 3 none 3 72 0 0 [.ref (o 43), .ref (o t1)] o hn M G (.inl (none)) Mr G := by
  refine MI.of (by decide +kernel) (Nat.le_of_ble_eq_true rfl) (fun X hY hX hE0 hR => ?_)
  change CxOK X RX3 cX3_read 3 3 72 0 0 none at hX
  show WM X o hn M G 0 0 0 3 [(0, .ref (o 43)), (1, .ref (o t1))] []
  unfold s_X3_read at hE
  refine q_aload_n (pc := 0) hX 0 rfl rfl dX3_read_0 ?_
  refine q_get (pc := 1) (id := 43) (ci := 3) (N := 2) (T := TX3) (C := RX3) hX 0 (lt46 (by decide)) rfl rfl in_X3 (by decide) (Or.inl kw_66) rfl dX3_read_1 ?_
  obtain ⟨r1, hr1, hE⟩ := ob_bind hE
  refine q_callV (pc := 4) (id := 44) (As := []) (rest := []) (rv := none) (st' := []) hX (c_X4_clear (tb_44 hn) hr1) (vl_X3_24) (lt46 (by decide)) (ob_T (tb_44 hn).1 _ _) rfl rfl pd_yX4_clear rfl ⟨by decide, by decide⟩ ⟨Nat.le_of_ble_eq_true rfl, Nat.le_of_ble_eq_true rfl⟩ rfl (Nat.le_of_ble_eq_true rfl) rfl dX3_read_4 ?_
  refine q_aload_n (pc := 7) hX 0 rfl rfl dX3_read_7 ?_
  refine q_iconst (pc := 8) hX (0) rfl dX3_read_8 ?_
  obtain ⟨M2, hM2⟩ : ∃ z : Mem, z = mst r1 43 1 0 := ⟨_, rfl⟩
  have hE := bnd_nm hM2 hE
  refine pu_S_rep (pc := 9) hX hM2 (Or.inl kw_67) dX3_read_9 ?_
  refine q_iconst (pc := 12) hX (0) rfl dX3_read_12 ?_
  refine q_istore_n (pc := 13) (lo' := [(0, .ref (o 43)), (1, .ref (o t1)), (2, .int 0)]) hX [1, 2, 0] rfl (by decide) rfl dX3_read_13 ?_
  obtain ⟨p13, hp13, hE⟩ := ob_bind hE
  refine l_X3_read_14 hX hE0 ht1 FU _ _ p13 hp13 ?_
  cases hE
  exact q_vret hX hR (by decide) (by decide) dX3_read_61

set_option maxHeartbeats 4000000 in
theorem l_X5_addEvent_15 {X : Cx} (hX : CxOK X RX5 cX5_addEvent 6 1 24 0 0 none) (hE0 : CxE X []) {o : Nat → Nat} {hn : Nat} {M : Mem} {x1 : Int32} {x2 : Int32} {x3 : Int32} {G : Mel} : ∀ (f : Nat) (y3 : Int32) (y4 : Int32) (p7 : Int32 × Int32), L_X5_addEvent_15 M x1 f y3 y4 = some p7 → WM X o hn M G 0 0 44 6 [(0, .ref (o 38)), (1, .int x1), (2, .int x2), (3, .int x3), (4, .int p7.1), (5, .int p7.2)] [] → WM X o hn M G 0 0 15 6 [(0, .ref (o 38)), (1, .int x1), (2, .int x2), (3, .int x3), (4, .int y3), (5, .int y4)] [] := by
  intro f
  induction f with
  | zero => intro y3 y4 p7 hE; simp [L_X5_addEvent_15] at hE
  | succ f ih =>
    intro y3 y4 p7 hE hx
    rw [L_X5_addEvent_15] at hE
    refine q_iload (pc := 15) hX 5 rfl dX5_addEvent_15 ?_
    refine q_if_lt (pc := 17) hX 44 (by decide) dX5_addEvent_17 (fun c => ?_) (fun c => ?_)
    · rw [if_pos c] at hE
      cases hE
      exact hx
    · rw [if_neg c] at hE
      refine q_aload_n (pc := 20) hX 0 rfl rfl dX5_addEvent_20 ?_
      refine q_get (pc := 21) (id := 38) (ci := 5) (N := 4) (T := TX5) (C := RX5) hX 1 (lt46 (by decide)) rfl rfl in_X5 (by decide) (Or.inl kw_58) rfl dX5_addEvent_21 ?_
      refine q_iload (pc := 24) hX 5 rfl dX5_addEvent_24 ?_
      refine q_iconst (pc := 26) hX (0) rfl dX5_addEvent_26 ?_
      obtain ⟨r5, hr5, hE⟩ := ob_bind hE
      refine q_callV (pc := 27) (id := 39) (As := [.int y4, .int 0]) (rest := []) (rv := some (.int r5)) (st' := [.int r5]) hX (c_X4_get (tb_39 hn) hr5) (vl_X5_66) (lt46 (by decide)) (ob_T (tb_39 hn).1 _ _) rfl rfl pd_yX4_get rfl ⟨by decide, by decide⟩ ⟨Nat.le_of_ble_eq_true rfl, Nat.le_of_ble_eq_true rfl⟩ rfl (Nat.le_of_ble_eq_true rfl) rfl dX5_addEvent_27 ?_
      refine q_iload_n (pc := 30) hX 1 rfl rfl dX5_addEvent_30 ?_
      refine q_icmp_le (pc := 31) hX 44 (by decide) dX5_addEvent_31 (fun c => ?_) (fun c => ?_)
      · rw [if_pos c] at hE
        cases hE
        exact hx
      · rw [if_neg c] at hE
        refine q_iload (pc := 34) hX 5 rfl dX5_addEvent_34 ?_
        refine q_istore (pc := 36) (lo' := [(0, .ref (o 38)), (1, .int x1), (2, .int x2), (3, .int x3), (4, .int y4), (5, .int y4)]) hX [1, 2, 3, 4, 0, 5] (by decide) rfl dX5_addEvent_36 ?_
        obtain ⟨z6, hz6⟩ : ∃ z : Int32, z = y4 + (-1) := ⟨_, rfl⟩
        have hE := bnd_nm hz6 hE
        refine q_iinc (pc := 38) (lo' := [(0, .ref (o 38)), (1, .int x1), (2, .int x2), (3, .int x3), (4, .int y4), (5, .int z6)]) hX 5 z6 [1, 2, 3, 4, 5, 0] rfl (by rw [hz6]; rfl) (by decide) rfl dX5_addEvent_38 ?_
        refine q_goto (pc := 41) hX 15 (by decide) dX5_addEvent_41 ?_
        exact ih _ _ p7 hE hx

set_option maxHeartbeats 4000000 in
theorem c_X5_addEvent {Y : Lx} {o : Nat → Nat} {hn : Nat} {M : Mem} {G : Mel} {x1 : Int32} {x2 : Int32} {x3 : Int32} {Mr : Mem} (hE : s_X5_addEvent M x1 x2 x3 = some (Mr)) : MI Y yX5_addEvent cX5_addEvent 6 none 1 24 0 0 [.ref (o 38), .int x1, .int x2, .int x3] o hn M G (.inl (none)) Mr G := by
  refine MI.of (by decide +kernel) (Nat.le_of_ble_eq_true rfl) (fun X hY hX hE0 hR => ?_)
  change CxOK X RX5 cX5_addEvent 6 1 24 0 0 none at hX
  show WM X o hn M G 0 0 0 6 [(0, .ref (o 38)), (1, .int x1), (2, .int x2), (3, .int x3)] []
  unfold s_X5_addEvent at hE
  refine q_aload_n (pc := 0) hX 0 rfl rfl dX5_addEvent_0 ?_
  refine q_get (pc := 1) (id := 38) (ci := 5) (N := 4) (T := TX5) (C := RX5) hX 1 (lt46 (by decide)) rfl rfl in_X5 (by decide) (Or.inl kw_58) rfl dX5_addEvent_1 ?_
  obtain ⟨r1, hr1, hE⟩ := ob_bind hE
  refine q_callV (pc := 4) (id := 39) (As := []) (rest := []) (rv := some (.int r1)) (st' := [.int r1]) hX (c_X4_size (tb_39 hn) hr1) (vl_X5_62) (lt46 (by decide)) (ob_T (tb_39 hn).1 _ _) rfl rfl pd_yX4_size rfl ⟨by decide, by decide⟩ ⟨Nat.le_of_ble_eq_true rfl, Nat.le_of_ble_eq_true rfl⟩ rfl (Nat.le_of_ble_eq_true rfl) rfl dX5_addEvent_4 ?_
  refine q_istore (pc := 7) (lo' := [(0, .ref (o 38)), (1, .int x1), (2, .int x2), (3, .int x3), (4, .int r1)]) hX [1, 2, 3, 4, 0] (by decide) rfl dX5_addEvent_7 ?_
  refine q_iload (pc := 9) hX 4 rfl dX5_addEvent_9 ?_
  refine q_iconst (pc := 11) hX (1) rfl dX5_addEvent_11 ?_
  refine q_isub (pc := 12) hX dX5_addEvent_12 ?_
  refine q_nm (fun z2 hz2 => ?_)
  have hE := bnd_nm hz2 hE
  refine q_istore (pc := 13) (lo' := [(0, .ref (o 38)), (1, .int x1), (2, .int x2), (3, .int x3), (4, .int r1), (5, .int z2)]) hX [1, 2, 3, 4, 5, 0] (by decide) rfl dX5_addEvent_13 ?_
  obtain ⟨p7, hp7, hE⟩ := ob_bind hE
  refine l_X5_addEvent_15 hX hE0 FU _ _ p7 hp7 ?_
  refine q_aload_n (pc := 44) hX 0 rfl rfl dX5_addEvent_44 ?_
  refine q_get (pc := 45) (id := 38) (ci := 5) (N := 4) (T := TX5) (C := RX5) hX 1 (lt46 (by decide)) rfl rfl in_X5 (by decide) (Or.inl kw_58) rfl dX5_addEvent_45 ?_
  refine q_iload (pc := 48) hX 4 rfl dX5_addEvent_48 ?_
  obtain ⟨r8, hr8, hE⟩ := ob_bind hE
  refine q_callV (pc := 50) (id := 39) (As := [.int p7.1]) (rest := []) (rv := none) (st' := []) hX (c_X4_insert (tb_39 hn) hr8) (vl_X5_74) (lt46 (by decide)) (ob_T (tb_39 hn).1 _ _) rfl rfl pd_yX4_insert rfl ⟨by decide, by decide⟩ ⟨Nat.le_of_ble_eq_true rfl, Nat.le_of_ble_eq_true rfl⟩ rfl (Nat.le_of_ble_eq_true rfl) rfl dX5_addEvent_50 ?_
  refine q_aload_n (pc := 53) hX 0 rfl rfl dX5_addEvent_53 ?_
  refine q_get (pc := 54) (id := 38) (ci := 5) (N := 4) (T := TX5) (C := RX5) hX 1 (lt46 (by decide)) rfl rfl in_X5 (by decide) (Or.inl kw_58) rfl dX5_addEvent_54 ?_
  refine q_iload (pc := 57) hX 4 rfl dX5_addEvent_57 ?_
  refine q_iconst (pc := 59) hX (0) rfl dX5_addEvent_59 ?_
  refine q_iload_n (pc := 60) hX 1 rfl rfl dX5_addEvent_60 ?_
  obtain ⟨r9, hr9, hE⟩ := ob_bind hE
  refine q_callV (pc := 61) (id := 39) (As := [.int p7.1, .int 0, .int x1]) (rest := []) (rv := none) (st' := []) hX (c_X4_set (tb_39 hn) hr9) (vl_X5_78) (lt46 (by decide)) (ob_T (tb_39 hn).1 _ _) rfl rfl pd_yX4_set rfl ⟨by decide, by decide⟩ ⟨Nat.le_of_ble_eq_true rfl, Nat.le_of_ble_eq_true rfl⟩ rfl (Nat.le_of_ble_eq_true rfl) rfl dX5_addEvent_61 ?_
  refine q_aload_n (pc := 64) hX 0 rfl rfl dX5_addEvent_64 ?_
  refine q_get (pc := 65) (id := 38) (ci := 5) (N := 4) (T := TX5) (C := RX5) hX 1 (lt46 (by decide)) rfl rfl in_X5 (by decide) (Or.inl kw_58) rfl dX5_addEvent_65 ?_
  refine q_iload (pc := 68) hX 4 rfl dX5_addEvent_68 ?_
  refine q_iconst (pc := 70) hX (1) rfl dX5_addEvent_70 ?_
  refine q_iload_n (pc := 71) hX 2 rfl rfl dX5_addEvent_71 ?_
  obtain ⟨r10, hr10, hE⟩ := ob_bind hE
  refine q_callV (pc := 72) (id := 39) (As := [.int p7.1, .int 1, .int x2]) (rest := []) (rv := none) (st' := []) hX (c_X4_set (tb_39 hn) hr10) (vl_X5_78) (lt46 (by decide)) (ob_T (tb_39 hn).1 _ _) rfl rfl pd_yX4_set rfl ⟨by decide, by decide⟩ ⟨Nat.le_of_ble_eq_true rfl, Nat.le_of_ble_eq_true rfl⟩ rfl (Nat.le_of_ble_eq_true rfl) rfl dX5_addEvent_72 ?_
  refine q_aload_n (pc := 75) hX 0 rfl rfl dX5_addEvent_75 ?_
  refine q_get (pc := 76) (id := 38) (ci := 5) (N := 4) (T := TX5) (C := RX5) hX 1 (lt46 (by decide)) rfl rfl in_X5 (by decide) (Or.inl kw_58) rfl dX5_addEvent_76 ?_
  refine q_iload (pc := 79) hX 4 rfl dX5_addEvent_79 ?_
  refine q_iconst (pc := 81) hX (2) rfl dX5_addEvent_81 ?_
  refine q_iload_n (pc := 82) hX 3 rfl rfl dX5_addEvent_82 ?_
  obtain ⟨r11, hr11, hE⟩ := ob_bind hE
  refine q_callV (pc := 83) (id := 39) (As := [.int p7.1, .int 2, .int x3]) (rest := []) (rv := none) (st' := []) hX (c_X4_set (tb_39 hn) hr11) (vl_X5_78) (lt46 (by decide)) (ob_T (tb_39 hn).1 _ _) rfl rfl pd_yX4_set rfl ⟨by decide, by decide⟩ ⟨Nat.le_of_ble_eq_true rfl, Nat.le_of_ble_eq_true rfl⟩ rfl (Nat.le_of_ble_eq_true rfl) rfl dX5_addEvent_83 ?_
  cases hE
  exact q_vret hX hR (by decide) (by decide) dX5_addEvent_86

set_option maxHeartbeats 4000000 in
theorem l_X5_addEvents_3 {X : Cx} (hX : CxOK X RX5 cX5_addEvents 5 2 49 0 0 none) (hE0 : CxE X []) {o : Nat → Nat} {hn : Nat} {t1 : Nat} {x2 : Int32} {x3 : Int32} {G : Mel} (ht1 : tb hn t1) : ∀ (f : Nat) (y1 : Int32) (M2 : Mem) (p9 : Int32 × Mem), L_X5_addEvents_3 t1 x2 x3 f y1 M2 = some p9 → WM X o hn p9.2 G 0 0 46 5 [(0, .ref (o 38)), (1, .ref (o t1)), (2, .int x2), (3, .int x3), (4, .int p9.1)] [] → WM X o hn M2 G 0 0 3 5 [(0, .ref (o 38)), (1, .ref (o t1)), (2, .int x2), (3, .int x3), (4, .int y1)] [] := by
  intro f
  induction f with
  | zero => intro y1 M2 p9 hE; simp [L_X5_addEvents_3] at hE
  | succ f ih =>
    intro y1 M2 p9 hE hx
    rw [L_X5_addEvents_3] at hE
    refine q_iload (pc := 3) hX 4 rfl dX5_addEvents_3 ?_
    refine q_aload_n (pc := 5) hX 1 rfl rfl dX5_addEvents_5 ?_
    obtain ⟨r3, hr3, hE⟩ := ob_bind hE
    refine q_callV (pc := 6) (id := t1) (As := []) (rest := [.int y1]) (rv := some (.int r3)) (st' := [.int r3, .int y1]) hX (c_X4_size ht1 hr3) (vl_X5_62) (tb_lt ht1) (ob_T ht1.1 _ _) rfl rfl pd_yX4_size rfl ⟨by decide, by decide⟩ ⟨Nat.le_of_ble_eq_true rfl, Nat.le_of_ble_eq_true rfl⟩ rfl (Nat.le_of_ble_eq_true rfl) rfl dX5_addEvents_6 ?_
    refine q_icmp_ge (pc := 9) hX 46 (by decide) dX5_addEvents_9 (fun c => ?_) (fun c => ?_)
    · rw [if_pos c] at hE
      cases hE
      exact hx
    · rw [if_neg c] at hE
      refine q_aload_n (pc := 12) hX 0 rfl rfl dX5_addEvents_12 ?_
      refine q_aload_n (pc := 13) hX 1 rfl rfl dX5_addEvents_13 ?_
      refine q_iload (pc := 14) hX 4 rfl dX5_addEvents_14 ?_
      refine q_iconst (pc := 16) hX (0) rfl dX5_addEvents_16 ?_
      obtain ⟨r4, hr4, hE⟩ := ob_bind hE
      refine q_callV (pc := 17) (id := t1) (As := [.int y1, .int 0]) (rest := [.ref (o 38)]) (rv := some (.int r4)) (st' := [.int r4, .ref (o 38)]) hX (c_X4_get ht1 hr4) (vl_X5_66) (tb_lt ht1) (ob_T ht1.1 _ _) rfl rfl pd_yX4_get rfl ⟨by decide, by decide⟩ ⟨Nat.le_of_ble_eq_true rfl, Nat.le_of_ble_eq_true rfl⟩ rfl (Nat.le_of_ble_eq_true rfl) rfl dX5_addEvents_17 ?_
      refine q_iload_n (pc := 20) hX 2 rfl rfl dX5_addEvents_20 ?_
      refine q_iload_n (pc := 21) hX 3 rfl rfl dX5_addEvents_21 ?_
      obtain ⟨r5, hr5, hE⟩ := ob_bind hE
      refine q_callV (pc := 22) (id := 38) (As := [.int r4, .int x2, .int x3]) (rest := []) (rv := none) (st' := []) hX (c_X5_addEvent hr5) (vl_X5_70) (lt46 (by decide)) rfl rfl rfl pd_yX5_addEvent rfl ⟨by decide, by decide⟩ ⟨Nat.le_of_ble_eq_true rfl, Nat.le_of_ble_eq_true rfl⟩ rfl (Nat.le_of_ble_eq_true rfl) rfl dX5_addEvents_22 ?_
      refine q_aload_n (pc := 25) hX 0 rfl rfl dX5_addEvents_25 ?_
      refine q_aload_n (pc := 26) hX 1 rfl rfl dX5_addEvents_26 ?_
      refine q_iload (pc := 27) hX 4 rfl dX5_addEvents_27 ?_
      refine q_iconst (pc := 29) hX (1) rfl dX5_addEvents_29 ?_
      obtain ⟨r6, hr6, hE⟩ := ob_bind hE
      refine q_callV (pc := 30) (id := t1) (As := [.int y1, .int 1]) (rest := [.ref (o 38)]) (rv := some (.int r6)) (st' := [.int r6, .ref (o 38)]) hX (c_X4_get ht1 hr6) (vl_X5_66) (tb_lt ht1) (ob_T ht1.1 _ _) rfl rfl pd_yX4_get rfl ⟨by decide, by decide⟩ ⟨Nat.le_of_ble_eq_true rfl, Nat.le_of_ble_eq_true rfl⟩ rfl (Nat.le_of_ble_eq_true rfl) rfl dX5_addEvents_30 ?_
      refine q_iload_n (pc := 33) hX 2 rfl rfl dX5_addEvents_33 ?_
      refine q_ineg (pc := 34) hX dX5_addEvents_34 ?_
      refine q_iload_n (pc := 35) hX 3 rfl rfl dX5_addEvents_35 ?_
      refine q_ineg (pc := 36) hX dX5_addEvents_36 ?_
      obtain ⟨r7, hr7, hE⟩ := ob_bind hE
      refine q_callV (pc := 37) (id := 38) (As := [.int r6, .int (-x2), .int (-x3)]) (rest := []) (rv := none) (st' := []) hX (c_X5_addEvent hr7) (vl_X5_70) (lt46 (by decide)) rfl rfl rfl pd_yX5_addEvent rfl ⟨by decide, by decide⟩ ⟨Nat.le_of_ble_eq_true rfl, Nat.le_of_ble_eq_true rfl⟩ rfl (Nat.le_of_ble_eq_true rfl) rfl dX5_addEvents_37 ?_
      obtain ⟨z8, hz8⟩ : ∃ z : Int32, z = y1 + 1 := ⟨_, rfl⟩
      have hE := bnd_nm hz8 hE
      refine q_iinc (pc := 40) (lo' := [(0, .ref (o 38)), (1, .ref (o t1)), (2, .int x2), (3, .int x3), (4, .int z8)]) hX 4 z8 [1, 2, 3, 4, 0] rfl (by rw [hz8]; rfl) (by decide) rfl dX5_addEvents_40 ?_
      refine q_goto (pc := 43) hX 3 (by decide) dX5_addEvents_43 ?_
      exact ih _ _ p9 hE hx

set_option maxHeartbeats 4000000 in
theorem c_X5_addEvents {Y : Lx} {o : Nat → Nat} {hn : Nat} {M : Mem} {G : Mel} {t1 : Nat} {x2 : Int32} {x3 : Int32} {Mr : Mem} (ht1 : tb hn t1) (hE : s_X5_addEvents M t1 x2 x3 = some (Mr)) : MI Y yX5_addEvents cX5_addEvents 5 none 2 49 0 0 [.ref (o 38), .ref (o t1), .int x2, .int x3] o hn M G (.inl (none)) Mr G := by
  refine MI.of (by decide +kernel) (Nat.le_of_ble_eq_true rfl) (fun X hY hX hE0 hR => ?_)
  change CxOK X RX5 cX5_addEvents 5 2 49 0 0 none at hX
  show WM X o hn M G 0 0 0 5 [(0, .ref (o 38)), (1, .ref (o t1)), (2, .int x2), (3, .int x3)] []
  unfold s_X5_addEvents at hE
  refine q_iconst (pc := 0) hX (0) rfl dX5_addEvents_0 ?_
  refine q_istore (pc := 1) (lo' := [(0, .ref (o 38)), (1, .ref (o t1)), (2, .int x2), (3, .int x3), (4, .int 0)]) hX [1, 2, 3, 4, 0] (by decide) rfl dX5_addEvents_1 ?_
  obtain ⟨p9, hp9, hE⟩ := ob_bind hE
  refine l_X5_addEvents_3 hX hE0 ht1 FU _ _ p9 hp9 ?_
  cases hE
  exact q_vret hX hR (by decide) (by decide) dX5_addEvents_46

set_option maxHeartbeats 4000000 in
theorem c_X5_addWorked {Y : Lx} {o : Nat → Nat} {hn : Nat} {M : Mem} {G : Mel} {x1 : Int32} {x2 : Int32} {Mr : Mem} (hE : s_X5_addWorked M x1 x2 = some (Mr)) : MI Y yX5_addWorked cX5_addWorked 4 none 2 47 0 0 [.ref (o 38), .int x1, .int x2] o hn M G (.inl (none)) Mr G := by
  refine MI.of (by decide +kernel) (Nat.le_of_ble_eq_true rfl) (fun X hY hX hE0 hR => ?_)
  change CxOK X RX5 cX5_addWorked 4 2 47 0 0 none at hX
  show WM X o hn M G 0 0 0 4 [(0, .ref (o 38)), (1, .int x1), (2, .int x2)] []
  unfold s_X5_addWorked at hE
  refine q_aload_n (pc := 0) hX 0 rfl rfl dX5_addWorked_0 ?_
  refine q_get (pc := 1) (id := 38) (ci := 5) (N := 4) (T := TX5) (C := RX5) hX 2 (lt46 (by decide)) rfl rfl in_X5 (by decide) (Or.inl kw_59) rfl dX5_addWorked_1 ?_
  obtain ⟨r1, hr1, hE⟩ := ob_bind hE
  refine q_callV (pc := 4) (id := 41) (As := []) (rest := []) (rv := some (.int r1)) (st' := [.int r1]) hX (c_X4_size (tb_41 hn) hr1) (vl_X5_62) (lt46 (by decide)) (ob_T (tb_41 hn).1 _ _) rfl rfl pd_yX4_size rfl ⟨by decide, by decide⟩ ⟨Nat.le_of_ble_eq_true rfl, Nat.le_of_ble_eq_true rfl⟩ rfl (Nat.le_of_ble_eq_true rfl) rfl dX5_addWorked_4 ?_
  refine q_iconst (pc := 7) hX (1) rfl dX5_addWorked_7 ?_
  refine q_isub (pc := 8) hX dX5_addWorked_8 ?_
  refine q_nm (fun z2 hz2 => ?_)
  have hE := bnd_nm hz2 hE
  refine q_istore_n (pc := 9) (lo' := [(0, .ref (o 38)), (1, .int x1), (2, .int x2), (3, .int z2)]) hX [1, 2, 3, 0] rfl (by decide) rfl dX5_addWorked_9 ?_
  refine q_iload_n (pc := 10) hX 3 rfl rfl dX5_addWorked_10 ?_
  refine q_if_lt (pc := 11) hX 40 (by decide) dX5_addWorked_11 (fun c => ?_) (fun c => ?_)
  · rw [if_pos c] at hE
    refine q_aload_n (pc := 40) hX 0 rfl rfl dX5_addWorked_40 ?_
    refine q_get (pc := 41) (id := 38) (ci := 5) (N := 4) (T := TX5) (C := RX5) hX 2 (lt46 (by decide)) rfl rfl in_X5 (by decide) (Or.inl kw_59) rfl dX5_addWorked_41 ?_
    refine q_iload_n (pc := 44) hX 1 rfl rfl dX5_addWorked_44 ?_
    refine q_iload_n (pc := 45) hX 2 rfl rfl dX5_addWorked_45 ?_
    obtain ⟨r3, hr3, hE⟩ := ob_bind hE
    refine q_callV (pc := 46) (id := 41) (As := [.int x1, .int x2]) (rest := []) (rv := none) (st' := []) hX (c_X4_addSpan (tb_41 hn) hr3) (vl_X5_84) (lt46 (by decide)) (ob_T (tb_41 hn).1 _ _) rfl rfl pd_yX4_addSpan rfl ⟨by decide, by decide⟩ ⟨Nat.le_of_ble_eq_true rfl, Nat.le_of_ble_eq_true rfl⟩ rfl (Nat.le_of_ble_eq_true rfl) rfl dX5_addWorked_46 ?_
    cases hE
    exact q_vret hX hR (by decide) (by decide) dX5_addWorked_49
  · rw [if_neg c] at hE
    refine q_aload_n (pc := 14) hX 0 rfl rfl dX5_addWorked_14 ?_
    refine q_get (pc := 15) (id := 38) (ci := 5) (N := 4) (T := TX5) (C := RX5) hX 2 (lt46 (by decide)) rfl rfl in_X5 (by decide) (Or.inl kw_59) rfl dX5_addWorked_15 ?_
    refine q_iload_n (pc := 18) hX 3 rfl rfl dX5_addWorked_18 ?_
    refine q_iconst (pc := 19) hX (1) rfl dX5_addWorked_19 ?_
    obtain ⟨r4, hr4, hE⟩ := ob_bind hE
    refine q_callV (pc := 20) (id := 41) (As := [.int z2, .int 1]) (rest := []) (rv := some (.int r4)) (st' := [.int r4]) hX (c_X4_get (tb_41 hn) hr4) (vl_X5_66) (lt46 (by decide)) (ob_T (tb_41 hn).1 _ _) rfl rfl pd_yX4_get rfl ⟨by decide, by decide⟩ ⟨Nat.le_of_ble_eq_true rfl, Nat.le_of_ble_eq_true rfl⟩ rfl (Nat.le_of_ble_eq_true rfl) rfl dX5_addWorked_20 ?_
    refine q_iload_n (pc := 23) hX 1 rfl rfl dX5_addWorked_23 ?_
    refine q_icmp_ne (pc := 24) hX 40 (by decide) dX5_addWorked_24 (fun c => ?_) (fun c => ?_)
    · rw [if_neg c] at hE
      refine q_aload_n (pc := 40) hX 0 rfl rfl dX5_addWorked_40 ?_
      refine q_get (pc := 41) (id := 38) (ci := 5) (N := 4) (T := TX5) (C := RX5) hX 2 (lt46 (by decide)) rfl rfl in_X5 (by decide) (Or.inl kw_59) rfl dX5_addWorked_41 ?_
      refine q_iload_n (pc := 44) hX 1 rfl rfl dX5_addWorked_44 ?_
      refine q_iload_n (pc := 45) hX 2 rfl rfl dX5_addWorked_45 ?_
      obtain ⟨r5, hr5, hE⟩ := ob_bind hE
      refine q_callV (pc := 46) (id := 41) (As := [.int x1, .int x2]) (rest := []) (rv := none) (st' := []) hX (c_X4_addSpan (tb_41 hn) hr5) (vl_X5_84) (lt46 (by decide)) (ob_T (tb_41 hn).1 _ _) rfl rfl pd_yX4_addSpan rfl ⟨by decide, by decide⟩ ⟨Nat.le_of_ble_eq_true rfl, Nat.le_of_ble_eq_true rfl⟩ rfl (Nat.le_of_ble_eq_true rfl) rfl dX5_addWorked_46 ?_
      cases hE
      exact q_vret hX hR (by decide) (by decide) dX5_addWorked_49
    · rw [if_pos c] at hE
      refine q_aload_n (pc := 27) hX 0 rfl rfl dX5_addWorked_27 ?_
      refine q_get (pc := 28) (id := 38) (ci := 5) (N := 4) (T := TX5) (C := RX5) hX 2 (lt46 (by decide)) rfl rfl in_X5 (by decide) (Or.inl kw_59) rfl dX5_addWorked_28 ?_
      refine q_iload_n (pc := 31) hX 3 rfl rfl dX5_addWorked_31 ?_
      refine q_iconst (pc := 32) hX (1) rfl dX5_addWorked_32 ?_
      refine q_iload_n (pc := 33) hX 2 rfl rfl dX5_addWorked_33 ?_
      obtain ⟨r6, hr6, hE⟩ := ob_bind hE
      refine q_callV (pc := 34) (id := 41) (As := [.int z2, .int 1, .int x2]) (rest := []) (rv := none) (st' := []) hX (c_X4_set (tb_41 hn) hr6) (vl_X5_78) (lt46 (by decide)) (ob_T (tb_41 hn).1 _ _) rfl rfl pd_yX4_set rfl ⟨by decide, by decide⟩ ⟨Nat.le_of_ble_eq_true rfl, Nat.le_of_ble_eq_true rfl⟩ rfl (Nat.le_of_ble_eq_true rfl) rfl dX5_addWorked_34 ?_
      refine q_goto (pc := 37) hX 49 (by decide) dX5_addWorked_37 ?_
      cases hE
      exact q_vret hX hR (by decide) (by decide) dX5_addWorked_49

set_option maxHeartbeats 4000000 in
theorem l_X5_goThroughEvents_21 {X : Cx} (hX : CxOK X RX5 cX5_goThroughEvents 6 3 70 0 0 none) (hE0 : CxE X []) {o : Nat → Nat} {hn : Nat} {G : Mel} : ∀ (f : Nat) (y3 : Int32) (y4 : Int32) (y5 : Int32) (y6 : Int32) (M7 : Mem) (p21 : Int32 × Int32 × Int32 × Int32 × Mem), L_X5_goThroughEvents_21 f y3 y4 y5 y6 M7 = some p21 → WM X o hn p21.2.2.2.2 G 0 0 120 6 [(0, .ref (o 38)), (1, .int p21.1), (2, .int p21.2.1), (3, .int p21.2.2.1), (4, .int p21.2.2.2.1)] [] → WM X o hn M7 G 0 0 21 6 [(0, .ref (o 38)), (1, .int y3), (2, .int y4), (3, .int y5), (4, .int y6)] [] := by
  intro f
  induction f with
  | zero => intro y3 y4 y5 y6 M7 p21 hE; simp [L_X5_goThroughEvents_21] at hE
  | succ f ih =>
    intro y3 y4 y5 y6 M7 p21 hE hx
    rw [L_X5_goThroughEvents_21] at hE
    refine q_iload (pc := 21) hX 4 rfl dX5_goThroughEvents_21 ?_
    refine q_aload_n (pc := 23) hX 0 rfl rfl dX5_goThroughEvents_23 ?_
    refine q_get (pc := 24) (id := 38) (ci := 5) (N := 4) (T := TX5) (C := RX5) hX 1 (lt46 (by decide)) rfl rfl in_X5 (by decide) (Or.inl kw_58) rfl dX5_goThroughEvents_24 ?_
    obtain ⟨r8, hr8, hE⟩ := ob_bind hE
    refine q_callV (pc := 27) (id := 39) (As := []) (rest := [.int y6]) (rv := some (.int r8)) (st' := [.int r8, .int y6]) hX (c_X4_size (tb_39 hn) hr8) (vl_X5_62) (lt46 (by decide)) (ob_T (tb_39 hn).1 _ _) rfl rfl pd_yX4_size rfl ⟨by decide, by decide⟩ ⟨Nat.le_of_ble_eq_true rfl, Nat.le_of_ble_eq_true rfl⟩ rfl (Nat.le_of_ble_eq_true rfl) rfl dX5_goThroughEvents_27 ?_
    refine q_icmp_ge (pc := 30) hX 120 (by decide) dX5_goThroughEvents_30 (fun c => ?_) (fun c => ?_)
    · rw [if_pos c] at hE
      cases hE
      exact hx
    · rw [if_neg c] at hE
      refine q_aload_n (pc := 33) hX 0 rfl rfl dX5_goThroughEvents_33 ?_
      refine q_get (pc := 34) (id := 38) (ci := 5) (N := 4) (T := TX5) (C := RX5) hX 1 (lt46 (by decide)) rfl rfl in_X5 (by decide) (Or.inl kw_58) rfl dX5_goThroughEvents_34 ?_
      refine q_iload (pc := 37) hX 4 rfl dX5_goThroughEvents_37 ?_
      refine q_iconst (pc := 39) hX (0) rfl dX5_goThroughEvents_39 ?_
      obtain ⟨r9, hr9, hE⟩ := ob_bind hE
      refine q_callV (pc := 40) (id := 39) (As := [.int y6, .int 0]) (rest := []) (rv := some (.int r9)) (st' := [.int r9]) hX (c_X4_get (tb_39 hn) hr9) (vl_X5_66) (lt46 (by decide)) (ob_T (tb_39 hn).1 _ _) rfl rfl pd_yX4_get rfl ⟨by decide, by decide⟩ ⟨Nat.le_of_ble_eq_true rfl, Nat.le_of_ble_eq_true rfl⟩ rfl (Nat.le_of_ble_eq_true rfl) rfl dX5_goThroughEvents_40 ?_
      refine q_istore (pc := 43) (lo' := [(0, .ref (o 38)), (1, .int y3), (2, .int y4), (3, .int y5), (4, .int y6), (5, .int r9)]) hX [1, 2, 3, 4, 5, 0] (by decide) rfl dX5_goThroughEvents_43 ?_
      refine q_iload_n (pc := 45) hX 1 rfl rfl dX5_goThroughEvents_45 ?_
      refine q_iconst (pc := 46) hX (2) rfl dX5_goThroughEvents_46 ?_
      obtain ⟨p12, hp12, hE⟩ := bnd_ob hE
      suffices Jp12 : WM X o hn p12 G 0 0 63 6 [(0, .ref (o 38)), (1, .int y3), (2, .int y4), (3, .int y5), (4, .int y6), (5, .int r9)] [] by
        refine q_icmp_lt (pc := 47) hX 63 (by decide) dX5_goThroughEvents_47 (fun c => ?_) (fun c => ?_)
        · rw [if_pos c] at hp12
          cases hp12
          exact Jp12
        · rw [if_neg c] at hp12
          refine q_aload_n (pc := 50) hX 0 rfl rfl dX5_goThroughEvents_50 ?_
          refine q_dup (pc := 51) hX rfl dX5_goThroughEvents_51 ?_
          refine q_get (pc := 52) (id := 38) (ci := 5) (N := 4) (T := TX5) (C := RX5) hX 3 (lt46 (by decide)) rfl rfl in_X5 (by decide) (Or.inl kw_60) rfl dX5_goThroughEvents_52 ?_
          refine q_iload (pc := 55) hX 5 rfl dX5_goThroughEvents_55 ?_
          refine q_iload_n (pc := 57) hX 3 rfl rfl dX5_goThroughEvents_57 ?_
          refine q_isub (pc := 58) hX dX5_goThroughEvents_58 ?_
          refine q_iadd (pc := 59) hX dX5_goThroughEvents_59 ?_
          obtain ⟨M11, hM11⟩ : ∃ z : Mem, z = mst M7 38 3 ((M7 38 3) + (r9 - y5)) := ⟨_, rfl⟩
          have hp12 := bnd_nm hM11 hp12
          refine pu_L_cov (pc := 60) hX hM11 (Or.inl kw_60) dX5_goThroughEvents_60 ?_
          cases hp12
          exact Jp12
      refine q_iload (pc := 63) hX 5 rfl dX5_goThroughEvents_63 ?_
      refine q_iload_n (pc := 65) hX 3 rfl rfl dX5_goThroughEvents_65 ?_
      obtain ⟨p15, hp15, hE⟩ := ob_bind hE
      suffices Jp15 : WM X o hn p15 G 0 0 85 6 [(0, .ref (o 38)), (1, .int y3), (2, .int y4), (4, .int y6), (5, .int r9)] [] by
        refine q_icmp_le (pc := 66) hX 85 (by decide) dX5_goThroughEvents_66 (fun c => ?_) (fun c => ?_)
        · rw [if_pos c] at hp15
          refine q_lo [0, 1, 2, 4, 5] rfl ?_
          cases hp15
          exact Jp15
        · rw [if_neg c] at hp15
          refine q_iload_n (pc := 69) hX 1 rfl rfl dX5_goThroughEvents_69 ?_
          refine q_iconst (pc := 70) hX (1) rfl dX5_goThroughEvents_70 ?_
          refine q_icmp_lt (pc := 71) hX 85 (by decide) dX5_goThroughEvents_71 (fun c => ?_) (fun c => ?_)
          · rw [if_pos c] at hp15
            refine q_lo [0, 1, 2, 4, 5] rfl ?_
            cases hp15
            exact Jp15
          · rw [if_neg c] at hp15
            refine q_iload_n (pc := 74) hX 2 rfl rfl dX5_goThroughEvents_74 ?_
            refine q_if_ne (pc := 75) hX 85 (by decide) dX5_goThroughEvents_75 (fun c => ?_) (fun c => ?_)
            · rw [if_neg c] at hp15
              refine q_lo [0, 1, 2, 4, 5] rfl ?_
              cases hp15
              exact Jp15
            · rw [if_pos c] at hp15
              refine q_aload_n (pc := 78) hX 0 rfl rfl dX5_goThroughEvents_78 ?_
              refine q_iload_n (pc := 79) hX 3 rfl rfl dX5_goThroughEvents_79 ?_
              refine q_iload (pc := 80) hX 5 rfl dX5_goThroughEvents_80 ?_
              obtain ⟨r14, hr14, hp15⟩ := ob_bind hp15
              refine q_callV (pc := 82) (id := 38) (As := [.int y5, .int r9]) (rest := []) (rv := none) (st' := []) hX (c_X5_addWorked hr14) (vl_X5_81) (lt46 (by decide)) rfl rfl rfl pd_yX5_addWorked rfl ⟨by decide, by decide⟩ ⟨Nat.le_of_ble_eq_true rfl, Nat.le_of_ble_eq_true rfl⟩ rfl (Nat.le_of_ble_eq_true rfl) rfl dX5_goThroughEvents_82 ?_
              refine q_lo [0, 1, 2, 4, 5] rfl ?_
              cases hp15
              exact Jp15
      refine q_iload_n (pc := 85) hX 1 rfl rfl dX5_goThroughEvents_85 ?_
      refine q_aload_n (pc := 86) hX 0 rfl rfl dX5_goThroughEvents_86 ?_
      refine q_get (pc := 87) (id := 38) (ci := 5) (N := 4) (T := TX5) (C := RX5) hX 1 (lt46 (by decide)) rfl rfl in_X5 (by decide) (Or.inl kw_58) rfl dX5_goThroughEvents_87 ?_
      refine q_iload (pc := 90) hX 3 rfl dX5_goThroughEvents_90 ?_
      refine q_iconst (pc := 92) hX (1) rfl dX5_goThroughEvents_92 ?_
      obtain ⟨r16, hr16, hE⟩ := ob_bind hE
      refine q_callV (pc := 93) (id := 39) (As := [.int y6, .int 1]) (rest := [.int y3]) (rv := some (.int r16)) (st' := [.int r16, .int y3]) hX (c_X4_get (tb_39 hn) hr16) (vl_X5_66) (lt46 (by decide)) (ob_T (tb_39 hn).1 _ _) rfl rfl pd_yX4_get rfl ⟨by decide, by decide⟩ ⟨Nat.le_of_ble_eq_true rfl, Nat.le_of_ble_eq_true rfl⟩ rfl (Nat.le_of_ble_eq_true rfl) rfl dX5_goThroughEvents_93 ?_
      refine q_iadd (pc := 96) hX dX5_goThroughEvents_96 ?_
      refine q_nm (fun z17 hz17 => ?_)
      have hE := bnd_nm hz17 hE
      refine q_istore_n (pc := 97) (lo' := [(0, .ref (o 38)), (1, .int z17), (2, .int y4), (4, .int y6), (5, .int r9)]) hX [1, 0, 2, 3, 4] rfl (by decide) rfl dX5_goThroughEvents_97 ?_
      refine q_iload_n (pc := 98) hX 2 rfl rfl dX5_goThroughEvents_98 ?_
      refine q_aload_n (pc := 99) hX 0 rfl rfl dX5_goThroughEvents_99 ?_
      refine q_get (pc := 100) (id := 38) (ci := 5) (N := 4) (T := TX5) (C := RX5) hX 1 (lt46 (by decide)) rfl rfl in_X5 (by decide) (Or.inl kw_58) rfl dX5_goThroughEvents_100 ?_
      refine q_iload (pc := 103) hX 3 rfl dX5_goThroughEvents_103 ?_
      refine q_iconst (pc := 105) hX (2) rfl dX5_goThroughEvents_105 ?_
      obtain ⟨r18, hr18, hE⟩ := ob_bind hE
      refine q_callV (pc := 106) (id := 39) (As := [.int y6, .int 2]) (rest := [.int y4]) (rv := some (.int r18)) (st' := [.int r18, .int y4]) hX (c_X4_get (tb_39 hn) hr18) (vl_X5_66) (lt46 (by decide)) (ob_T (tb_39 hn).1 _ _) rfl rfl pd_yX4_get rfl ⟨by decide, by decide⟩ ⟨Nat.le_of_ble_eq_true rfl, Nat.le_of_ble_eq_true rfl⟩ rfl (Nat.le_of_ble_eq_true rfl) rfl dX5_goThroughEvents_106 ?_
      refine q_iadd (pc := 109) hX dX5_goThroughEvents_109 ?_
      refine q_nm (fun z19 hz19 => ?_)
      have hE := bnd_nm hz19 hE
      refine q_istore_n (pc := 110) (lo' := [(0, .ref (o 38)), (1, .int z17), (2, .int z19), (4, .int y6), (5, .int r9)]) hX [1, 2, 0, 3, 4] rfl (by decide) rfl dX5_goThroughEvents_110 ?_
      refine q_iload (pc := 111) hX 4 rfl dX5_goThroughEvents_111 ?_
      refine q_istore_n (pc := 113) (lo' := [(0, .ref (o 38)), (1, .int z17), (2, .int z19), (3, .int r9), (4, .int y6), (5, .int r9)]) hX [1, 2, 3, 0, 4, 5] rfl (by decide) rfl dX5_goThroughEvents_113 ?_
      obtain ⟨z20, hz20⟩ : ∃ z : Int32, z = y6 + 1 := ⟨_, rfl⟩
      have hE := bnd_nm hz20 hE
      refine q_iinc (pc := 114) (lo' := [(0, .ref (o 38)), (1, .int z17), (2, .int z19), (3, .int r9), (4, .int z20), (5, .int r9)]) hX 4 z20 [1, 2, 3, 4, 0, 5] rfl (by rw [hz20]; rfl) (by decide) rfl dX5_goThroughEvents_114 ?_
      refine q_goto (pc := 117) hX 21 (by decide) dX5_goThroughEvents_117 ?_
      refine q_lo [0, 1, 2, 3, 4] rfl ?_
      exact ih _ _ _ _ _ p21 hE hx

set_option maxHeartbeats 4000000 in
theorem c_X5_goThroughEvents {Y : Lx} {o : Nat → Nat} {hn : Nat} {M : Mem} {G : Mel} {Mr : Mem} (hE : s_X5_goThroughEvents M = some (Mr)) : MI Y yX5_goThroughEvents cX5_goThroughEvents 6 none 3 70 0 0 [.ref (o 38)] o hn M G (.inl (none)) Mr G := by
  refine MI.of (by decide +kernel) (Nat.le_of_ble_eq_true rfl) (fun X hY hX hE0 hR => ?_)
  change CxOK X RX5 cX5_goThroughEvents 6 3 70 0 0 none at hX
  show WM X o hn M G 0 0 0 6 [(0, .ref (o 38))] []
  unfold s_X5_goThroughEvents at hE
  refine q_aload_n (pc := 0) hX 0 rfl rfl dX5_goThroughEvents_0 ?_
  refine q_get (pc := 1) (id := 38) (ci := 5) (N := 4) (T := TX5) (C := RX5) hX 2 (lt46 (by decide)) rfl rfl in_X5 (by decide) (Or.inl kw_59) rfl dX5_goThroughEvents_1 ?_
  obtain ⟨r1, hr1, hE⟩ := ob_bind hE
  refine q_callV (pc := 4) (id := 41) (As := []) (rest := []) (rv := none) (st' := []) hX (c_X4_clear (tb_41 hn) hr1) (vl_X5_43) (lt46 (by decide)) (ob_T (tb_41 hn).1 _ _) rfl rfl pd_yX4_clear rfl ⟨by decide, by decide⟩ ⟨Nat.le_of_ble_eq_true rfl, Nat.le_of_ble_eq_true rfl⟩ rfl (Nat.le_of_ble_eq_true rfl) rfl dX5_goThroughEvents_4 ?_
  refine q_aload_n (pc := 7) hX 0 rfl rfl dX5_goThroughEvents_7 ?_
  refine q_iconst (pc := 8) hX (0) rfl dX5_goThroughEvents_8 ?_
  obtain ⟨M2, hM2⟩ : ∃ z : Mem, z = mst r1 38 3 0 := ⟨_, rfl⟩
  have hE := bnd_nm hM2 hE
  refine pu_L_cov (pc := 9) hX hM2 (Or.inl kw_60) dX5_goThroughEvents_9 ?_
  refine q_iconst (pc := 12) hX (0) rfl dX5_goThroughEvents_12 ?_
  refine q_istore_n (pc := 13) (lo' := [(0, .ref (o 38)), (1, .int 0)]) hX [1, 0] rfl (by decide) rfl dX5_goThroughEvents_13 ?_
  refine q_iconst (pc := 14) hX (0) rfl dX5_goThroughEvents_14 ?_
  refine q_istore_n (pc := 15) (lo' := [(0, .ref (o 38)), (1, .int 0), (2, .int 0)]) hX [1, 2, 0] rfl (by decide) rfl dX5_goThroughEvents_15 ?_
  refine q_iconst (pc := 16) hX (0) rfl dX5_goThroughEvents_16 ?_
  refine q_istore_n (pc := 17) (lo' := [(0, .ref (o 38)), (1, .int 0), (2, .int 0), (3, .int 0)]) hX [1, 2, 3, 0] rfl (by decide) rfl dX5_goThroughEvents_17 ?_
  refine q_iconst (pc := 18) hX (0) rfl dX5_goThroughEvents_18 ?_
  refine q_istore (pc := 19) (lo' := [(0, .ref (o 38)), (1, .int 0), (2, .int 0), (3, .int 0), (4, .int 0)]) hX [1, 2, 3, 4, 0] (by decide) rfl dX5_goThroughEvents_19 ?_
  obtain ⟨p21, hp21, hE⟩ := ob_bind hE
  refine l_X5_goThroughEvents_21 hX hE0 FU _ _ _ _ _ p21 hp21 ?_
  cases hE
  exact q_vret hX hR (by decide) (by decide) dX5_goThroughEvents_120

set_option maxHeartbeats 4000000 in
theorem c_X5_read {Y : Lx} {o : Nat → Nat} {hn : Nat} {M : Mem} {G : Mel} {e1 : Nat} {Mr : Mem} (he1 : em hn e1) (hE : s_X5_read M e1 = some (Mr)) : MI Y yX5_read cX5_read 2 none 4 95 0 0 [.ref (o 38), .ref (o e1)] o hn M G (.inl (none)) Mr G := by
  refine MI.of (by decide +kernel) (Nat.le_of_ble_eq_true rfl) (fun X hY hX hE0 hR => ?_)
  change CxOK X RX5 cX5_read 2 4 95 0 0 none at hX
  show WM X o hn M G 0 0 0 2 [(0, .ref (o 38)), (1, .ref (o e1))] []
  unfold s_X5_read at hE
  refine q_aload_n (pc := 0) hX 0 rfl rfl dX5_read_0 ?_
  refine q_get (pc := 1) (id := 38) (ci := 5) (N := 4) (T := TX5) (C := RX5) hX 0 (lt46 (by decide)) rfl rfl in_X5 (by decide) (Or.inl kw_56) rfl dX5_read_1 ?_
  refine q_aload_n (pc := 4) hX 1 rfl rfl dX5_read_4 ?_
  refine q_get (pc := 5) (id := e1) (ci := 0) (N := 6) (T := TX0) (C := RX0) hX 3 (em_lt he1) (ob_E he1 _ _) rfl in_X0 (by decide) (Or.inr ⟨_, fn_X5_34⟩) rfl dX5_read_5 ?_
  obtain ⟨r1, hr1, hE⟩ := ob_bind hE
  refine q_callV (pc := 8) (id := 43) (As := [.ref (o (e1 + 1))]) (rest := []) (rv := none) (st' := []) hX (c_X3_read (tb_e1 he1) hr1) (vl_X5_39) (lt46 (by decide)) rfl rfl rfl pd_yX3_read rfl ⟨by decide, by decide⟩ ⟨Nat.le_of_ble_eq_true rfl, Nat.le_of_ble_eq_true rfl⟩ rfl (Nat.le_of_ble_eq_true rfl) rfl dX5_read_8 ?_
  refine q_aload_n (pc := 11) hX 0 rfl rfl dX5_read_11 ?_
  refine q_get (pc := 12) (id := 38) (ci := 5) (N := 4) (T := TX5) (C := RX5) hX 1 (lt46 (by decide)) rfl rfl in_X5 (by decide) (Or.inl kw_58) rfl dX5_read_12 ?_
  obtain ⟨r2, hr2, hE⟩ := ob_bind hE
  refine q_callV (pc := 15) (id := 39) (As := []) (rest := []) (rv := none) (st' := []) hX (c_X4_clear (tb_39 hn) hr2) (vl_X5_43) (lt46 (by decide)) (ob_T (tb_39 hn).1 _ _) rfl rfl pd_yX4_clear rfl ⟨by decide, by decide⟩ ⟨Nat.le_of_ble_eq_true rfl, Nat.le_of_ble_eq_true rfl⟩ rfl (Nat.le_of_ble_eq_true rfl) rfl dX5_read_15 ?_
  refine q_aload_n (pc := 18) hX 0 rfl rfl dX5_read_18 ?_
  refine q_aload_n (pc := 19) hX 0 rfl rfl dX5_read_19 ?_
  refine q_get (pc := 20) (id := 38) (ci := 5) (N := 4) (T := TX5) (C := RX5) hX 0 (lt46 (by decide)) rfl rfl in_X5 (by decide) (Or.inl kw_56) rfl dX5_read_20 ?_
  refine q_get (pc := 23) (id := 43) (ci := 3) (N := 2) (T := TX3) (C := RX3) hX 0 (lt46 (by decide)) rfl rfl in_X3 (by decide) (Or.inr ⟨_, fn_X5_46⟩) rfl dX5_read_23 ?_
  refine q_iconst (pc := 26) hX (1) rfl dX5_read_26 ?_
  refine q_iconst (pc := 27) hX (0) rfl dX5_read_27 ?_
  obtain ⟨r3, hr3, hE⟩ := ob_bind hE
  refine q_callV (pc := 28) (id := 38) (As := [.ref (o 44), .int 1, .int 0]) (rest := []) (rv := none) (st' := []) hX (c_X5_addEvents (tb_44 hn) hr3) (vl_X5_49) (lt46 (by decide)) rfl rfl rfl pd_yX5_addEvents rfl ⟨by decide, by decide⟩ ⟨Nat.le_of_ble_eq_true rfl, Nat.le_of_ble_eq_true rfl⟩ rfl (Nat.le_of_ble_eq_true rfl) rfl dX5_read_28 ?_
  refine q_aload_n (pc := 31) hX 0 rfl rfl dX5_read_31 ?_
  refine q_aload_n (pc := 32) hX 1 rfl rfl dX5_read_32 ?_
  refine q_get (pc := 33) (id := e1) (ci := 0) (N := 6) (T := TX0) (C := RX0) hX 4 (em_lt he1) (ob_E he1 _ _) rfl in_X0 (by decide) (Or.inr ⟨_, fn_X5_53⟩) rfl dX5_read_33 ?_
  refine q_iconst (pc := 36) hX (1) rfl dX5_read_36 ?_
  refine q_iconst (pc := 37) hX (0) rfl dX5_read_37 ?_
  obtain ⟨r4, hr4, hE⟩ := ob_bind hE
  refine q_callV (pc := 38) (id := 38) (As := [.ref (o (e1 + 3)), .int 1, .int 0]) (rest := []) (rv := none) (st' := []) hX (c_X5_addEvents (tb_e3 he1) hr4) (vl_X5_49) (lt46 (by decide)) rfl rfl rfl pd_yX5_addEvents rfl ⟨by decide, by decide⟩ ⟨Nat.le_of_ble_eq_true rfl, Nat.le_of_ble_eq_true rfl⟩ rfl (Nat.le_of_ble_eq_true rfl) rfl dX5_read_38 ?_
  refine q_aload_n (pc := 41) hX 0 rfl rfl dX5_read_41 ?_
  refine q_aload_n (pc := 42) hX 1 rfl rfl dX5_read_42 ?_
  refine q_get (pc := 43) (id := e1) (ci := 0) (N := 6) (T := TX0) (C := RX0) hX 5 (em_lt he1) (ob_E he1 _ _) rfl in_X0 (by decide) (Or.inr ⟨_, fn_X5_56⟩) rfl dX5_read_43 ?_
  refine q_iconst (pc := 46) hX (0) rfl dX5_read_46 ?_
  refine q_iconst (pc := 47) hX (1) rfl dX5_read_47 ?_
  obtain ⟨r5, hr5, hE⟩ := ob_bind hE
  refine q_callV (pc := 48) (id := 38) (As := [.ref (o (e1 + 5)), .int 0, .int 1]) (rest := []) (rv := none) (st' := []) hX (c_X5_addEvents (tb_e5 he1) hr5) (vl_X5_49) (lt46 (by decide)) rfl rfl rfl pd_yX5_addEvents rfl ⟨by decide, by decide⟩ ⟨Nat.le_of_ble_eq_true rfl, Nat.le_of_ble_eq_true rfl⟩ rfl (Nat.le_of_ble_eq_true rfl) rfl dX5_read_48 ?_
  refine q_aload_n (pc := 51) hX 0 rfl rfl dX5_read_51 ?_
  obtain ⟨r6, hr6, hE⟩ := ob_bind hE
  refine q_callV (pc := 52) (id := 38) (As := []) (rest := []) (rv := none) (st' := []) hX (c_X5_goThroughEvents hr6) (vl_X5_59) (lt46 (by decide)) rfl rfl rfl pd_yX5_goThroughEvents rfl ⟨by decide, by decide⟩ ⟨Nat.le_of_ble_eq_true rfl, Nat.le_of_ble_eq_true rfl⟩ rfl (Nat.le_of_ble_eq_true rfl) rfl dX5_read_52 ?_
  cases hE
  exact q_vret hX hR (by decide) (by decide) dX5_read_55

set_option maxHeartbeats 4000000 in
theorem l_X1_takeOffAutomaticBreaks_9 {X : Cx} (hX : CxOK X RX1 cX1_takeOffAutomaticBreaks 5 2 47 0 0 none) (hE0 : CxE X []) {o : Nat → Nat} {hn : Nat} {t1 : Nat} {G : Mel} (ht1 : tb hn t1) : ∀ (f : Nat) (y2 : Int32) (M3 : Mem) (p12 : Int32 × Mem), L_X1_takeOffAutomaticBreaks_9 t1 f y2 M3 = some p12 → WM X o hn p12.2 G 0 0 80 5 [(0, .ref (o 33)), (1, .ref (o t1)), (2, .int p12.1)] [] → WM X o hn M3 G 0 0 9 5 [(0, .ref (o 33)), (1, .ref (o t1)), (2, .int y2)] [] := by
  intro f
  induction f with
  | zero => intro y2 M3 p12 hE; simp [L_X1_takeOffAutomaticBreaks_9] at hE
  | succ f ih =>
    intro y2 M3 p12 hE hx
    rw [L_X1_takeOffAutomaticBreaks_9] at hE
    refine q_iload_n (pc := 9) hX 2 rfl rfl dX1_takeOffAutomaticBreaks_9 ?_
    refine q_aload_n (pc := 10) hX 1 rfl rfl dX1_takeOffAutomaticBreaks_10 ?_
    obtain ⟨r4, hr4, hE⟩ := ob_bind hE
    refine q_callV (pc := 11) (id := t1) (As := []) (rest := [.int y2]) (rv := some (.int r4)) (st' := [.int r4, .int y2]) hX (c_X4_size ht1 hr4) (vl_X1_56) (tb_lt ht1) (ob_T ht1.1 _ _) rfl rfl pd_yX4_size rfl ⟨by decide, by decide⟩ ⟨Nat.le_of_ble_eq_true rfl, Nat.le_of_ble_eq_true rfl⟩ rfl (Nat.le_of_ble_eq_true rfl) rfl dX1_takeOffAutomaticBreaks_11 ?_
    refine q_icmp_ge (pc := 14) hX 80 (by decide) dX1_takeOffAutomaticBreaks_14 (fun c => ?_) (fun c => ?_)
    · rw [if_pos c] at hE
      cases hE
      exact hx
    · rw [if_neg c] at hE
      refine q_aload_n (pc := 17) hX 1 rfl rfl dX1_takeOffAutomaticBreaks_17 ?_
      refine q_iload_n (pc := 18) hX 2 rfl rfl dX1_takeOffAutomaticBreaks_18 ?_
      refine q_iconst (pc := 19) hX (0) rfl dX1_takeOffAutomaticBreaks_19 ?_
      obtain ⟨r5, hr5, hE⟩ := ob_bind hE
      refine q_callV (pc := 20) (id := t1) (As := [.int y2, .int 0]) (rest := []) (rv := some (.int r5)) (st' := [.int r5]) hX (c_X4_get ht1 hr5) (vl_X1_60) (tb_lt ht1) (ob_T ht1.1 _ _) rfl rfl pd_yX4_get rfl ⟨by decide, by decide⟩ ⟨Nat.le_of_ble_eq_true rfl, Nat.le_of_ble_eq_true rfl⟩ rfl (Nat.le_of_ble_eq_true rfl) rfl dX1_takeOffAutomaticBreaks_20 ?_
      refine q_istore_n (pc := 23) (lo' := [(0, .ref (o 33)), (1, .ref (o t1)), (2, .int y2), (3, .int r5)]) hX [1, 2, 3, 0] rfl (by decide) rfl dX1_takeOffAutomaticBreaks_23 ?_
      refine q_aload_n (pc := 24) hX 1 rfl rfl dX1_takeOffAutomaticBreaks_24 ?_
      refine q_iload_n (pc := 25) hX 2 rfl rfl dX1_takeOffAutomaticBreaks_25 ?_
      refine q_iconst (pc := 26) hX (1) rfl dX1_takeOffAutomaticBreaks_26 ?_
      obtain ⟨r6, hr6, hE⟩ := ob_bind hE
      refine q_callV (pc := 27) (id := t1) (As := [.int y2, .int 1]) (rest := []) (rv := some (.int r6)) (st' := [.int r6]) hX (c_X4_get ht1 hr6) (vl_X1_60) (tb_lt ht1) (ob_T ht1.1 _ _) rfl rfl pd_yX4_get rfl ⟨by decide, by decide⟩ ⟨Nat.le_of_ble_eq_true rfl, Nat.le_of_ble_eq_true rfl⟩ rfl (Nat.le_of_ble_eq_true rfl) rfl dX1_takeOffAutomaticBreaks_27 ?_
      refine q_istore (pc := 30) (lo' := [(0, .ref (o 33)), (1, .ref (o t1)), (2, .int y2), (3, .int r5), (4, .int r6)]) hX [1, 2, 3, 4, 0] (by decide) rfl dX1_takeOffAutomaticBreaks_30 ?_
      refine q_aload_n (pc := 32) hX 0 rfl rfl dX1_takeOffAutomaticBreaks_32 ?_
      refine q_get (pc := 33) (id := 33) (ci := 1) (N := 3) (T := TX1) (C := RX1) hX 1 (lt46 (by decide)) rfl rfl in_X1 (by decide) (Or.inl kw_47) rfl dX1_takeOffAutomaticBreaks_33 ?_
      refine q_iload_n (pc := 36) hX 3 rfl rfl dX1_takeOffAutomaticBreaks_36 ?_
      refine q_iload (pc := 37) hX 4 rfl dX1_takeOffAutomaticBreaks_37 ?_
      refine q_iload_n (pc := 39) hX 3 rfl rfl dX1_takeOffAutomaticBreaks_39 ?_
      refine q_sipush (pc := 40) hX (360) (by decide) dX1_takeOffAutomaticBreaks_40 ?_
      refine q_iadd (pc := 43) hX dX1_takeOffAutomaticBreaks_43 ?_
      refine r_min (pc := 44) hX kw_228 kw_191 kw_192 kw_193 (by decide) (Nat.le_of_ble_eq_true rfl) (Nat.le_of_ble_eq_true rfl) (Nat.le_of_ble_eq_true rfl) dX1_takeOffAutomaticBreaks_44 ?_
      obtain ⟨r7, hr7, hE⟩ := ob_bind hE
      refine q_callV (pc := 47) (id := 34) (As := [.int r5, .int (if r5 + 360 < r6 then r5 + 360 else r6)]) (rest := []) (rv := none) (st' := []) hX (c_X4_addSpan (tb_34 hn) hr7) (vl_X1_69) (lt46 (by decide)) (ob_T (tb_34 hn).1 _ _) rfl rfl pd_yX4_addSpan rfl ⟨by decide, by decide⟩ ⟨Nat.le_of_ble_eq_true rfl, Nat.le_of_ble_eq_true rfl⟩ rfl (Nat.le_of_ble_eq_true rfl) rfl dX1_takeOffAutomaticBreaks_47 ?_
      refine q_iload (pc := 50) hX 4 rfl dX1_takeOffAutomaticBreaks_50 ?_
      refine q_iload_n (pc := 52) hX 3 rfl rfl dX1_takeOffAutomaticBreaks_52 ?_
      refine q_sipush (pc := 53) hX (390) (by decide) dX1_takeOffAutomaticBreaks_53 ?_
      refine q_iadd (pc := 56) hX dX1_takeOffAutomaticBreaks_56 ?_
      obtain ⟨p10, hp10, hE⟩ := ob_bind hE
      suffices Jp10 : WM X o hn p10 G 0 0 74 5 [(0, .ref (o 33)), (1, .ref (o t1)), (2, .int y2)] [] by
        refine q_icmp_le (pc := 57) hX 74 (by decide) dX1_takeOffAutomaticBreaks_57 (fun c => ?_) (fun c => ?_)
        · rw [if_pos c] at hp10
          refine q_lo [0, 1, 2] rfl ?_
          cases hp10
          exact Jp10
        · rw [if_neg c] at hp10
          refine q_aload_n (pc := 60) hX 0 rfl rfl dX1_takeOffAutomaticBreaks_60 ?_
          refine q_get (pc := 61) (id := 33) (ci := 1) (N := 3) (T := TX1) (C := RX1) hX 1 (lt46 (by decide)) rfl rfl in_X1 (by decide) (Or.inl kw_47) rfl dX1_takeOffAutomaticBreaks_61 ?_
          refine q_iload_n (pc := 64) hX 3 rfl rfl dX1_takeOffAutomaticBreaks_64 ?_
          refine q_sipush (pc := 65) hX (390) (by decide) dX1_takeOffAutomaticBreaks_65 ?_
          refine q_iadd (pc := 68) hX dX1_takeOffAutomaticBreaks_68 ?_
          refine q_iload (pc := 69) hX 4 rfl dX1_takeOffAutomaticBreaks_69 ?_
          obtain ⟨r9, hr9, hp10⟩ := ob_bind hp10
          refine q_callV (pc := 71) (id := 34) (As := [.int (r5 + 390), .int r6]) (rest := []) (rv := none) (st' := []) hX (c_X4_addSpan (tb_34 hn) hr9) (vl_X1_69) (lt46 (by decide)) (ob_T (tb_34 hn).1 _ _) rfl rfl pd_yX4_addSpan rfl ⟨by decide, by decide⟩ ⟨Nat.le_of_ble_eq_true rfl, Nat.le_of_ble_eq_true rfl⟩ rfl (Nat.le_of_ble_eq_true rfl) rfl dX1_takeOffAutomaticBreaks_71 ?_
          refine q_lo [0, 1, 2] rfl ?_
          cases hp10
          exact Jp10
      obtain ⟨z11, hz11⟩ : ∃ z : Int32, z = y2 + 1 := ⟨_, rfl⟩
      have hE := bnd_nm hz11 hE
      refine q_iinc (pc := 74) (lo' := [(0, .ref (o 33)), (1, .ref (o t1)), (2, .int z11)]) hX 2 z11 [1, 2, 0] rfl (by rw [hz11]; rfl) (by decide) rfl dX1_takeOffAutomaticBreaks_74 ?_
      refine q_goto (pc := 77) hX 9 (by decide) dX1_takeOffAutomaticBreaks_77 ?_
      exact ih _ _ p12 hE hx

set_option maxHeartbeats 4000000 in
theorem c_X1_takeOffAutomaticBreaks {Y : Lx} {o : Nat → Nat} {hn : Nat} {M : Mem} {G : Mel} {t1 : Nat} {Mr : Mem} (ht1 : tb hn t1) (hE : s_X1_takeOffAutomaticBreaks M t1 = some (Mr)) : MI Y yX1_takeOffAutomaticBreaks cX1_takeOffAutomaticBreaks 5 none 2 47 0 0 [.ref (o 33), .ref (o t1)] o hn M G (.inl (none)) Mr G := by
  refine MI.of (by decide +kernel) (Nat.le_of_ble_eq_true rfl) (fun X hY hX hE0 hR => ?_)
  change CxOK X RX1 cX1_takeOffAutomaticBreaks 5 2 47 0 0 none at hX
  show WM X o hn M G 0 0 0 5 [(0, .ref (o 33)), (1, .ref (o t1))] []
  unfold s_X1_takeOffAutomaticBreaks at hE
  refine q_aload_n (pc := 0) hX 0 rfl rfl dX1_takeOffAutomaticBreaks_0 ?_
  refine q_get (pc := 1) (id := 33) (ci := 1) (N := 3) (T := TX1) (C := RX1) hX 1 (lt46 (by decide)) rfl rfl in_X1 (by decide) (Or.inl kw_47) rfl dX1_takeOffAutomaticBreaks_1 ?_
  obtain ⟨r1, hr1, hE⟩ := ob_bind hE
  refine q_callV (pc := 4) (id := 34) (As := []) (rest := []) (rv := none) (st' := []) hX (c_X4_clear (tb_34 hn) hr1) (vl_X1_41) (lt46 (by decide)) (ob_T (tb_34 hn).1 _ _) rfl rfl pd_yX4_clear rfl ⟨by decide, by decide⟩ ⟨Nat.le_of_ble_eq_true rfl, Nat.le_of_ble_eq_true rfl⟩ rfl (Nat.le_of_ble_eq_true rfl) rfl dX1_takeOffAutomaticBreaks_4 ?_
  refine q_iconst (pc := 7) hX (0) rfl dX1_takeOffAutomaticBreaks_7 ?_
  refine q_istore_n (pc := 8) (lo' := [(0, .ref (o 33)), (1, .ref (o t1)), (2, .int 0)]) hX [1, 2, 0] rfl (by decide) rfl dX1_takeOffAutomaticBreaks_8 ?_
  obtain ⟨p12, hp12, hE⟩ := ob_bind hE
  refine l_X1_takeOffAutomaticBreaks_9 hX hE0 ht1 FU _ _ p12 hp12 ?_
  cases hE
  exact q_vret hX hR (by decide) (by decide) dX1_takeOffAutomaticBreaks_80

set_option maxHeartbeats 4000000 in
theorem l_X6_minutesOnDay_4 {X : Cx} (hX : CxOK X RX6 cX6_minutesOnDay 6 1 24 0 0 (some .int)) (hE0 : CxE X []) {o : Nat → Nat} {hn : Nat} {M : Mem} {t0 : Nat} {x1 : Int32} {G : Mel} (ht0 : tb hn t0) : ∀ (f : Nat) (y1 : Int32) (y2 : Int32) (p10 : Int32 × Int32), L_X6_minutesOnDay_4 M t0 x1 f y1 y2 = some p10 → WM X o hn M G 0 0 64 6 [(0, .ref (o t0)), (1, .int x1), (2, .int p10.1), (3, .int p10.2)] [] → WM X o hn M G 0 0 4 6 [(0, .ref (o t0)), (1, .int x1), (2, .int y1), (3, .int y2)] [] := by
  intro f
  induction f with
  | zero => intro y1 y2 p10 hE; simp [L_X6_minutesOnDay_4] at hE
  | succ f ih =>
    intro y1 y2 p10 hE hx
    rw [L_X6_minutesOnDay_4] at hE
    refine q_iload_n (pc := 4) hX 3 rfl rfl dX6_minutesOnDay_4 ?_
    refine q_aload_n (pc := 5) hX 0 rfl rfl dX6_minutesOnDay_5 ?_
    obtain ⟨r3, hr3, hE⟩ := ob_bind hE
    refine q_callV (pc := 6) (id := t0) (As := []) (rest := [.int y2]) (rv := some (.int r3)) (st' := [.int r3, .int y2]) hX (c_X4_size ht0 hr3) (vl_X6_93) (tb_lt ht0) (ob_T ht0.1 _ _) rfl rfl pd_yX4_size rfl ⟨by decide, by decide⟩ ⟨Nat.le_of_ble_eq_true rfl, Nat.le_of_ble_eq_true rfl⟩ rfl (Nat.le_of_ble_eq_true rfl) rfl dX6_minutesOnDay_6 ?_
    refine q_icmp_ge (pc := 9) hX 64 (by decide) dX6_minutesOnDay_9 (fun c => ?_) (fun c => ?_)
    · rw [if_pos c] at hE
      cases hE
      exact hx
    · rw [if_neg c] at hE
      refine q_aload_n (pc := 12) hX 0 rfl rfl dX6_minutesOnDay_12 ?_
      refine q_iload_n (pc := 13) hX 3 rfl rfl dX6_minutesOnDay_13 ?_
      refine q_iconst (pc := 14) hX (0) rfl dX6_minutesOnDay_14 ?_
      obtain ⟨r4, hr4, hE⟩ := ob_bind hE
      refine q_callV (pc := 15) (id := t0) (As := [.int y2, .int 0]) (rest := []) (rv := some (.int r4)) (st' := [.int r4]) hX (c_X4_get ht0 hr4) (vl_X6_102) (tb_lt ht0) (ob_T ht0.1 _ _) rfl rfl pd_yX4_get rfl ⟨by decide, by decide⟩ ⟨Nat.le_of_ble_eq_true rfl, Nat.le_of_ble_eq_true rfl⟩ rfl (Nat.le_of_ble_eq_true rfl) rfl dX6_minutesOnDay_15 ?_
      refine q_iload_n (pc := 18) hX 1 rfl rfl dX6_minutesOnDay_18 ?_
      refine q_sipush (pc := 19) hX (1440) (by decide) dX6_minutesOnDay_19 ?_
      refine q_imul (pc := 22) hX dX6_minutesOnDay_22 ?_
      refine r_max (pc := 23) hX kw_239 kw_200 kw_192 kw_201 (by decide) (Nat.le_of_ble_eq_true rfl) (Nat.le_of_ble_eq_true rfl) (Nat.le_of_ble_eq_true rfl) dX6_minutesOnDay_23 ?_
      refine q_nm (fun z5 hz5 => ?_)
      have hE := bnd_nm hz5 hE
      refine q_istore (pc := 26) (lo' := [(0, .ref (o t0)), (1, .int x1), (2, .int y1), (3, .int y2), (4, .int z5)]) hX [1, 2, 3, 4, 0] (by decide) rfl dX6_minutesOnDay_26 ?_
      refine q_aload_n (pc := 28) hX 0 rfl rfl dX6_minutesOnDay_28 ?_
      refine q_iload_n (pc := 29) hX 3 rfl rfl dX6_minutesOnDay_29 ?_
      refine q_iconst (pc := 30) hX (1) rfl dX6_minutesOnDay_30 ?_
      obtain ⟨r6, hr6, hE⟩ := ob_bind hE
      refine q_callV (pc := 31) (id := t0) (As := [.int y2, .int 1]) (rest := []) (rv := some (.int r6)) (st' := [.int r6]) hX (c_X4_get ht0 hr6) (vl_X6_102) (tb_lt ht0) (ob_T ht0.1 _ _) rfl rfl pd_yX4_get rfl ⟨by decide, by decide⟩ ⟨Nat.le_of_ble_eq_true rfl, Nat.le_of_ble_eq_true rfl⟩ rfl (Nat.le_of_ble_eq_true rfl) rfl dX6_minutesOnDay_31 ?_
      refine q_iload_n (pc := 34) hX 1 rfl rfl dX6_minutesOnDay_34 ?_
      refine q_iconst (pc := 35) hX (1) rfl dX6_minutesOnDay_35 ?_
      refine q_iadd (pc := 36) hX dX6_minutesOnDay_36 ?_
      refine q_sipush (pc := 37) hX (1440) (by decide) dX6_minutesOnDay_37 ?_
      refine q_imul (pc := 40) hX dX6_minutesOnDay_40 ?_
      refine r_min (pc := 41) hX kw_240 kw_191 kw_192 kw_193 (by decide) (Nat.le_of_ble_eq_true rfl) (Nat.le_of_ble_eq_true rfl) (Nat.le_of_ble_eq_true rfl) dX6_minutesOnDay_41 ?_
      refine q_nm (fun z7 hz7 => ?_)
      have hE := bnd_nm hz7 hE
      refine q_istore (pc := 44) (lo' := [(0, .ref (o t0)), (1, .int x1), (2, .int y1), (3, .int y2), (4, .int z5), (5, .int z7)]) hX [1, 2, 3, 4, 5, 0] (by decide) rfl dX6_minutesOnDay_44 ?_
      refine q_iload_n (pc := 46) hX 2 rfl rfl dX6_minutesOnDay_46 ?_
      refine q_iload (pc := 47) hX 5 rfl dX6_minutesOnDay_47 ?_
      refine q_iload (pc := 49) hX 4 rfl dX6_minutesOnDay_49 ?_
      refine q_isub (pc := 51) hX dX6_minutesOnDay_51 ?_
      refine q_iconst (pc := 52) hX (0) rfl dX6_minutesOnDay_52 ?_
      refine r_max (pc := 53) hX kw_239 kw_200 kw_192 kw_201 (by decide) (Nat.le_of_ble_eq_true rfl) (Nat.le_of_ble_eq_true rfl) (Nat.le_of_ble_eq_true rfl) dX6_minutesOnDay_53 ?_
      refine q_iadd (pc := 56) hX dX6_minutesOnDay_56 ?_
      refine q_nm (fun z8 hz8 => ?_)
      have hE := bnd_nm hz8 hE
      refine q_istore_n (pc := 57) (lo' := [(0, .ref (o t0)), (1, .int x1), (2, .int z8), (3, .int y2), (4, .int z5), (5, .int z7)]) hX [1, 2, 0, 3, 4, 5] rfl (by decide) rfl dX6_minutesOnDay_57 ?_
      obtain ⟨z9, hz9⟩ : ∃ z : Int32, z = y2 + 1 := ⟨_, rfl⟩
      have hE := bnd_nm hz9 hE
      refine q_iinc (pc := 58) (lo' := [(0, .ref (o t0)), (1, .int x1), (2, .int z8), (3, .int z9), (4, .int z5), (5, .int z7)]) hX 3 z9 [1, 2, 3, 0, 4, 5] rfl (by rw [hz9]; rfl) (by decide) rfl dX6_minutesOnDay_58 ?_
      refine q_goto (pc := 61) hX 4 (by decide) dX6_minutesOnDay_61 ?_
      refine q_lo [0, 1, 2, 3] rfl ?_
      exact ih _ _ p10 hE hx

set_option maxHeartbeats 4000000 in
theorem c_X6_minutesOnDay {Y : Lx} {o : Nat → Nat} {hn : Nat} {M : Mem} {G : Mel} {t0 : Nat} {x1 : Int32} {rr : Int32} (ht0 : tb hn t0) (hE : s_X6_minutesOnDay M t0 x1 = some (rr)) : MI Y yX6_minutesOnDay cX6_minutesOnDay 6 (some .int) 1 24 0 0 [.ref (o t0), .int x1] o hn M G (.inl (some (.int rr))) M G := by
  refine MI.of (by decide +kernel) (Nat.le_of_ble_eq_true rfl) (fun X hY hX hE0 hR => ?_)
  change CxOK X RX6 cX6_minutesOnDay 6 1 24 0 0 (some .int) at hX
  show WM X o hn M G 0 0 0 6 [(0, .ref (o t0)), (1, .int x1)] []
  unfold s_X6_minutesOnDay at hE
  refine q_iconst (pc := 0) hX (0) rfl dX6_minutesOnDay_0 ?_
  refine q_istore_n (pc := 1) (lo' := [(0, .ref (o t0)), (1, .int x1), (2, .int 0)]) hX [1, 2, 0] rfl (by decide) rfl dX6_minutesOnDay_1 ?_
  refine q_iconst (pc := 2) hX (0) rfl dX6_minutesOnDay_2 ?_
  refine q_istore_n (pc := 3) (lo' := [(0, .ref (o t0)), (1, .int x1), (2, .int 0), (3, .int 0)]) hX [1, 2, 3, 0] rfl (by decide) rfl dX6_minutesOnDay_3 ?_
  obtain ⟨p10, hp10, hE⟩ := ob_bind hE
  refine l_X6_minutesOnDay_4 hX hE0 ht0 FU _ _ p10 hp10 ?_
  refine q_iload_n (pc := 64) hX 2 rfl rfl dX6_minutesOnDay_64 ?_
  cases hE
  exact q_iret hX hR (by decide) (by decide) dX6_minutesOnDay_65

set_option maxHeartbeats 4000000 in
theorem l_X1_isFull_4 {X : Cx} (hX : CxOK X RX1 cX1_isFull 3 2 49 0 0 (some .boolean)) (hE0 : CxE X []) {o : Nat → Nat} {hn : Nat} {M : Mem} {G : Mel} : ∀ (f : Nat) (y1 : Int32) (y2 : Int32) (p7 : Int32 × Int32), L_X1_isFull_4 M f y1 y2 = some p7 → WM X o hn M G 0 0 37 3 [(0, .ref (o 33)), (1, .int p7.1), (2, .int p7.2)] [] → WM X o hn M G 0 0 4 3 [(0, .ref (o 33)), (1, .int y1), (2, .int y2)] [] := by
  intro f
  induction f with
  | zero => intro y1 y2 p7 hE; simp [L_X1_isFull_4] at hE
  | succ f ih =>
    intro y1 y2 p7 hE hx
    rw [L_X1_isFull_4] at hE
    refine q_iload_n (pc := 4) hX 2 rfl rfl dX1_isFull_4 ?_
    refine q_bipush (pc := 5) hX (6) (by decide) dX1_isFull_5 ?_
    refine q_icmp_ge (pc := 7) hX 37 (by decide) dX1_isFull_7 (fun c => ?_) (fun c => ?_)
    · rw [if_pos c] at hE
      cases hE
      exact hx
    · rw [if_neg c] at hE
      refine q_iload_n (pc := 10) hX 1 rfl rfl dX1_isFull_10 ?_
      obtain ⟨p5, hp5, hE⟩ := ob_bind hE
      suffices Jp5 : WM X o hn M G 0 0 30 3 [(0, .ref (o 33)), (2, .int y2)] [.int p5] by
        refine q_if_eq (pc := 11) hX 29 (by decide) dX1_isFull_11 (fun c => ?_) (fun c => ?_)
        · rw [if_pos c] at hp5
          refine q_iconst (pc := 29) hX (0) rfl dX1_isFull_29 ?_
          refine q_lo [0, 2] rfl ?_
          cases hp5
          exact Jp5
        · rw [if_neg c] at hp5
          refine q_aload_n (pc := 14) hX 0 rfl rfl dX1_isFull_14 ?_
          refine q_get (pc := 15) (id := 33) (ci := 1) (N := 3) (T := TX1) (C := RX1) hX 1 (lt46 (by decide)) rfl rfl in_X1 (by decide) (Or.inl kw_47) rfl dX1_isFull_15 ?_
          refine q_iload_n (pc := 18) hX 2 rfl rfl dX1_isFull_18 ?_
          obtain ⟨r4, hr4, hp5⟩ := ob_bind hp5
          refine q_callSN (pc := 19) (As := [.ref (o 34), .int y2]) (rest := []) (rv := some (.int r4)) (st' := [.int r4]) hX (c_X6_minutesOnDay (tb_34 hn) hr4) mn_X1_52 kw_237 kw_2 kw_238 (by decide) pd_yX6_minutesOnDay rfl ⟨by decide, by decide⟩ ⟨Nat.le_of_ble_eq_true rfl, Nat.le_of_ble_eq_true rfl⟩ rfl (Nat.le_of_ble_eq_true rfl) rfl dX1_isFull_19 ?_
          refine q_if_le (pc := 22) hX 29 (by decide) dX1_isFull_22 (fun c => ?_) (fun c => ?_)
          · rw [if_pos c] at hp5
            refine q_iconst (pc := 29) hX (0) rfl dX1_isFull_29 ?_
            refine q_lo [0, 2] rfl ?_
            cases hp5
            exact Jp5
          · rw [if_neg c] at hp5
            refine q_iconst (pc := 25) hX (1) rfl dX1_isFull_25 ?_
            refine q_goto (pc := 26) hX 30 (by decide) dX1_isFull_26 ?_
            refine q_lo [0, 2] rfl ?_
            cases hp5
            exact Jp5
      refine q_istore_n (pc := 30) (lo' := [(0, .ref (o 33)), (1, .int p5), (2, .int y2)]) hX [1, 0, 2] rfl (by decide) rfl dX1_isFull_30 ?_
      obtain ⟨z6, hz6⟩ : ∃ z : Int32, z = y2 + 1 := ⟨_, rfl⟩
      have hE := bnd_nm hz6 hE
      refine q_iinc (pc := 31) (lo' := [(0, .ref (o 33)), (1, .int p5), (2, .int z6)]) hX 2 z6 [1, 2, 0] rfl (by rw [hz6]; rfl) (by decide) rfl dX1_isFull_31 ?_
      refine q_goto (pc := 34) hX 4 (by decide) dX1_isFull_34 ?_
      exact ih _ _ p7 hE hx

set_option maxHeartbeats 4000000 in
theorem c_X1_isFull {Y : Lx} {o : Nat → Nat} {hn : Nat} {M : Mem} {G : Mel} {rr : Int32} (hE : s_X1_isFull M = some (rr)) : MI Y yX1_isFull cX1_isFull 3 (some .boolean) 2 49 0 0 [.ref (o 33)] o hn M G (.inl (some (.int rr))) M G := by
  refine MI.of (by decide +kernel) (Nat.le_of_ble_eq_true rfl) (fun X hY hX hE0 hR => ?_)
  change CxOK X RX1 cX1_isFull 3 2 49 0 0 (some .boolean) at hX
  show WM X o hn M G 0 0 0 3 [(0, .ref (o 33))] []
  unfold s_X1_isFull at hE
  refine q_iconst (pc := 0) hX (1) rfl dX1_isFull_0 ?_
  refine q_istore_n (pc := 1) (lo' := [(0, .ref (o 33)), (1, .int 1)]) hX [1, 0] rfl (by decide) rfl dX1_isFull_1 ?_
  refine q_iconst (pc := 2) hX (0) rfl dX1_isFull_2 ?_
  refine q_istore_n (pc := 3) (lo' := [(0, .ref (o 33)), (1, .int 1), (2, .int 0)]) hX [1, 2, 0] rfl (by decide) rfl dX1_isFull_3 ?_
  obtain ⟨p7, hp7, hE⟩ := ob_bind hE
  refine l_X1_isFull_4 hX hE0 FU _ _ p7 hp7 ?_
  refine q_iload_n (pc := 37) hX 1 rfl rfl dX1_isFull_37 ?_
  obtain ⟨v8, hv8, hE⟩ := ob_bind hE
  obtain ⟨hqv8, hbv8⟩ := bchk_ok hv8
  rw [hqv8]
  cases hE
  exact q_zret hX hbv8 hR (by decide) (by decide) dX1_isFull_38

set_option maxHeartbeats 4000000 in
theorem c_X1_untilLimit {Y : Lx} {o : Nat → Nat} {hn : Nat} {M : Mem} {G : Mel} {x0 : Int32} {x1 : Int32} {rr : Int32} (hE : s_X1_untilLimit x0 x1 = some (rr)) : MI Y yX1_untilLimit cX1_untilLimit 3 (some .int) 1 24 0 0 [.int x0, .int x1] o hn M G (.inl (some (.int rr))) M G := by
  refine MI.of (by decide +kernel) (Nat.le_of_ble_eq_true rfl) (fun X hY hX hE0 hR => ?_)
  change CxOK X RX1 cX1_untilLimit 3 1 24 0 0 (some .int) at hX
  show WM X o hn M G 0 0 0 3 [(0, .int x0), (1, .int x1)] []
  unfold s_X1_untilLimit at hE
  refine q_sipush (pc := 0) hX (10080) (by decide) dX1_untilLimit_0 ?_
  refine q_istore_n (pc := 3) (lo' := [(0, .int x0), (1, .int x1), (2, .int 10080)]) hX [1, 2, 0] rfl (by decide) rfl dX1_untilLimit_3 ?_
  refine q_iload_n (pc := 4) hX 0 rfl rfl dX1_untilLimit_4 ?_
  refine q_sipush (pc := 5) hX (480) (by decide) dX1_untilLimit_5 ?_
  obtain ⟨p4, hp4, hE⟩ := bnd_ob hE
  suffices Jp4 : WM X o hn M G 0 0 33 3 [(1, .int x1), (2, .int p4)] [] by
    refine q_icmp_ge (pc := 8) hX 20 (by decide) dX1_untilLimit_8 (fun c => ?_) (fun c => ?_)
    · rw [if_pos c] at hp4
      refine q_iload_n (pc := 20) hX 0 rfl rfl dX1_untilLimit_20 ?_
      refine q_sipush (pc := 21) hX (720) (by decide) dX1_untilLimit_21 ?_
      refine q_icmp_ge (pc := 24) hX 33 (by decide) dX1_untilLimit_24 (fun c => ?_) (fun c => ?_)
      · rw [if_pos c] at hp4
        refine q_lo [1, 2] rfl ?_
        cases hp4
        exact Jp4
      · rw [if_neg c] at hp4
        refine q_sipush (pc := 27) hX (720) (by decide) dX1_untilLimit_27 ?_
        refine q_iload_n (pc := 30) hX 0 rfl rfl dX1_untilLimit_30 ?_
        refine q_isub (pc := 31) hX dX1_untilLimit_31 ?_
        refine q_nm (fun z2 hz2 => ?_)
        have hp4 := bnd_nm hz2 hp4
        refine q_istore_n (pc := 32) (lo' := [(0, .int x0), (1, .int x1), (2, .int z2)]) hX [1, 2, 0] rfl (by decide) rfl dX1_untilLimit_32 ?_
        refine q_lo [1, 2] rfl ?_
        cases hp4
        exact Jp4
    · rw [if_neg c] at hp4
      refine q_sipush (pc := 11) hX (480) (by decide) dX1_untilLimit_11 ?_
      refine q_iload_n (pc := 14) hX 0 rfl rfl dX1_untilLimit_14 ?_
      refine q_isub (pc := 15) hX dX1_untilLimit_15 ?_
      refine q_nm (fun z3 hz3 => ?_)
      have hp4 := bnd_nm hz3 hp4
      refine q_istore_n (pc := 16) (lo' := [(0, .int x0), (1, .int x1), (2, .int z3)]) hX [1, 2, 0] rfl (by decide) rfl dX1_untilLimit_16 ?_
      refine q_goto (pc := 17) hX 33 (by decide) dX1_untilLimit_17 ?_
      refine q_lo [1, 2] rfl ?_
      cases hp4
      exact Jp4
  refine q_iload_n (pc := 33) hX 0 rfl rfl dX1_untilLimit_33 ?_
  refine q_sipush (pc := 34) hX (2400) (by decide) dX1_untilLimit_34 ?_
  refine q_icmp_ge (pc := 37) hX 52 (by decide) dX1_untilLimit_37 (fun c => ?_) (fun c => ?_)
  · rw [if_pos c] at hE
    refine q_iload_n (pc := 52) hX 1 rfl rfl dX1_untilLimit_52 ?_
    cases hE
    exact q_iret hX hR (by decide) (by decide) dX1_untilLimit_53
  · rw [if_neg c] at hE
    refine q_iload_n (pc := 40) hX 1 rfl rfl dX1_untilLimit_40 ?_
    refine q_sipush (pc := 41) hX (2400) (by decide) dX1_untilLimit_41 ?_
    refine q_iload_n (pc := 44) hX 0 rfl rfl dX1_untilLimit_44 ?_
    refine q_isub (pc := 45) hX dX1_untilLimit_45 ?_
    refine r_min (pc := 46) hX kw_228 kw_191 kw_192 kw_193 (by decide) (Nat.le_of_ble_eq_true rfl) (Nat.le_of_ble_eq_true rfl) (Nat.le_of_ble_eq_true rfl) dX1_untilLimit_46 ?_
    refine q_goto (pc := 49) hX 53 (by decide) dX1_untilLimit_49 ?_
    cases hE
    exact q_iret hX hR (by decide) (by decide) dX1_untilLimit_53

set_option maxHeartbeats 4000000 in
theorem c_X1_categoryFor {Y : Lx} {o : Nat → Nat} {hn : Nat} {M : Mem} {G : Mel} {x0 : Int32} {x1 : Int32} {x2 : Int32} {rr : Int32} (hE : s_X1_categoryFor x0 x1 x2 = some (rr)) : MI Y yX1_categoryFor cX1_categoryFor 3 (some .int) 0 0 0 0 [.int x0, .int x1, .int x2] o hn M G (.inl (some (.int rr))) M G := by
  refine MI.of (by decide +kernel) (Nat.le_of_ble_eq_true rfl) (fun X hY hX hE0 hR => ?_)
  change CxOK X RX1 cX1_categoryFor 3 0 0 0 0 (some .int) at hX
  show WM X o hn M G 0 0 0 3 [(0, .int x0), (1, .int x1), (2, .int x2)] []
  unfold s_X1_categoryFor at hE
  refine q_iload_n (pc := 0) hX 0 rfl rfl dX1_categoryFor_0 ?_
  refine q_sipush (pc := 1) hX (720) (by decide) dX1_categoryFor_1 ?_
  refine q_icmp_ge (pc := 4) hX 18 (by decide) dX1_categoryFor_4 (fun c => ?_) (fun c => ?_)
  · rw [if_pos c] at hE
    refine q_iconst (pc := 18) hX (2) rfl dX1_categoryFor_18 ?_
    cases hE
    exact q_iret hX hR (by decide) (by decide) dX1_categoryFor_19
  · rw [if_neg c] at hE
    refine q_iload_n (pc := 7) hX 2 rfl rfl dX1_categoryFor_7 ?_
    refine q_if_eq (pc := 8) hX 20 (by decide) dX1_categoryFor_8 (fun c => ?_) (fun c => ?_)
    · rw [if_pos c] at hE
      refine q_iload_n (pc := 20) hX 0 rfl rfl dX1_categoryFor_20 ?_
      refine q_sipush (pc := 21) hX (480) (by decide) dX1_categoryFor_21 ?_
      refine q_icmp_ge (pc := 24) hX 38 (by decide) dX1_categoryFor_24 (fun c => ?_) (fun c => ?_)
      · rw [if_pos c] at hE
        refine q_iconst (pc := 38) hX (1) rfl dX1_categoryFor_38 ?_
        refine q_goto (pc := 39) hX 43 (by decide) dX1_categoryFor_39 ?_
        cases hE
        exact q_iret hX hR (by decide) (by decide) dX1_categoryFor_43
      · rw [if_neg c] at hE
        refine q_iload_n (pc := 27) hX 1 rfl rfl dX1_categoryFor_27 ?_
        refine q_sipush (pc := 28) hX (2400) (by decide) dX1_categoryFor_28 ?_
        refine q_icmp_ge (pc := 31) hX 38 (by decide) dX1_categoryFor_31 (fun c => ?_) (fun c => ?_)
        · rw [if_pos c] at hE
          refine q_iconst (pc := 38) hX (1) rfl dX1_categoryFor_38 ?_
          refine q_goto (pc := 39) hX 43 (by decide) dX1_categoryFor_39 ?_
          cases hE
          exact q_iret hX hR (by decide) (by decide) dX1_categoryFor_43
        · rw [if_neg c] at hE
          refine q_iload_n (pc := 34) hX 2 rfl rfl dX1_categoryFor_34 ?_
          refine q_if_eq (pc := 35) hX 42 (by decide) dX1_categoryFor_35 (fun c => ?_) (fun c => ?_)
          · rw [if_pos c] at hE
            refine q_iconst (pc := 42) hX (0) rfl dX1_categoryFor_42 ?_
            cases hE
            exact q_iret hX hR (by decide) (by decide) dX1_categoryFor_43
          · rw [if_neg c] at hE
            refine q_iconst (pc := 38) hX (1) rfl dX1_categoryFor_38 ?_
            refine q_goto (pc := 39) hX 43 (by decide) dX1_categoryFor_39 ?_
            cases hE
            exact q_iret hX hR (by decide) (by decide) dX1_categoryFor_43
    · rw [if_neg c] at hE
      refine q_iload_n (pc := 11) hX 0 rfl rfl dX1_categoryFor_11 ?_
      refine q_sipush (pc := 12) hX (480) (by decide) dX1_categoryFor_12 ?_
      refine q_icmp_lt (pc := 15) hX 20 (by decide) dX1_categoryFor_15 (fun c => ?_) (fun c => ?_)
      · rw [if_pos c] at hE
        refine q_iload_n (pc := 20) hX 0 rfl rfl dX1_categoryFor_20 ?_
        refine q_sipush (pc := 21) hX (480) (by decide) dX1_categoryFor_21 ?_
        refine q_icmp_ge (pc := 24) hX 38 (by decide) dX1_categoryFor_24 (fun c => ?_) (fun c => ?_)
        · rw [if_pos c] at hE
          refine q_iconst (pc := 38) hX (1) rfl dX1_categoryFor_38 ?_
          refine q_goto (pc := 39) hX 43 (by decide) dX1_categoryFor_39 ?_
          cases hE
          exact q_iret hX hR (by decide) (by decide) dX1_categoryFor_43
        · rw [if_neg c] at hE
          refine q_iload_n (pc := 27) hX 1 rfl rfl dX1_categoryFor_27 ?_
          refine q_sipush (pc := 28) hX (2400) (by decide) dX1_categoryFor_28 ?_
          refine q_icmp_ge (pc := 31) hX 38 (by decide) dX1_categoryFor_31 (fun c => ?_) (fun c => ?_)
          · rw [if_pos c] at hE
            refine q_iconst (pc := 38) hX (1) rfl dX1_categoryFor_38 ?_
            refine q_goto (pc := 39) hX 43 (by decide) dX1_categoryFor_39 ?_
            cases hE
            exact q_iret hX hR (by decide) (by decide) dX1_categoryFor_43
          · rw [if_neg c] at hE
            refine q_iload_n (pc := 34) hX 2 rfl rfl dX1_categoryFor_34 ?_
            refine q_if_eq (pc := 35) hX 42 (by decide) dX1_categoryFor_35 (fun c => ?_) (fun c => ?_)
            · rw [if_pos c] at hE
              refine q_iconst (pc := 42) hX (0) rfl dX1_categoryFor_42 ?_
              cases hE
              exact q_iret hX hR (by decide) (by decide) dX1_categoryFor_43
            · rw [if_neg c] at hE
              refine q_iconst (pc := 38) hX (1) rfl dX1_categoryFor_38 ?_
              refine q_goto (pc := 39) hX 43 (by decide) dX1_categoryFor_39 ?_
              cases hE
              exact q_iret hX hR (by decide) (by decide) dX1_categoryFor_43
      · rw [if_neg c] at hE
        refine q_iconst (pc := 18) hX (2) rfl dX1_categoryFor_18 ?_
        cases hE
        exact q_iret hX hR (by decide) (by decide) dX1_categoryFor_19

set_option maxHeartbeats 4000000 in
theorem l_X1_addParts_6 {X : Cx} (hX : CxOK X RX1 cX1_addParts 12 2 47 0 0 none) (hE0 : CxE X []) {o : Nat → Nat} {hn : Nat} {x1 : Int32} {x2 : Int32} {x3 : Int32} {x4 : Int32} {x5 : Int32} {G : Mel} : ∀ (f : Nat) (y1 : Int32) (y2 : Int32) (M3 : Mem) (p14 : Int32 × Int32 × Mem), L_X1_addParts_6 x1 x2 x3 x4 x5 f y1 y2 M3 = some p14 → WM X o hn p14.2.2 G 0 0 108 12 [(0, .ref (o 33)), (1, .int x1), (2, .int x2), (3, .int x3), (4, .int x4), (5, .int x5), (6, .int p14.1), (7, .int p14.2.1)] [] → WM X o hn M3 G 0 0 6 12 [(0, .ref (o 33)), (1, .int x1), (2, .int x2), (3, .int x3), (4, .int x4), (5, .int x5), (6, .int y1), (7, .int y2)] [] := by
  intro f
  induction f with
  | zero => intro y1 y2 M3 p14 hE; simp [L_X1_addParts_6] at hE
  | succ f ih =>
    intro y1 y2 M3 p14 hE hx
    rw [L_X1_addParts_6] at hE
    refine q_iload (pc := 6) hX 7 rfl dX1_addParts_6 ?_
    refine q_sipush (pc := 8) hX (1440) (by decide) dX1_addParts_8 ?_
    refine q_icmp_ge (pc := 11) hX 108 (by decide) dX1_addParts_11 (fun c => ?_) (fun c => ?_)
    · rw [if_pos c] at hE
      cases hE
      exact hx
    · rw [if_neg c] at hE
      refine q_iload (pc := 14) hX 6 rfl dX1_addParts_14 ?_
      refine q_iload_n (pc := 16) hX 2 rfl rfl dX1_addParts_16 ?_
      refine q_icmp_ge (pc := 17) hX 108 (by decide) dX1_addParts_17 (fun c => ?_) (fun c => ?_)
      · rw [if_pos c] at hE
        cases hE
        exact hx
      · rw [if_neg c] at hE
        refine q_iload_n (pc := 20) hX 3 rfl rfl dX1_addParts_20 ?_
        refine q_iload (pc := 21) hX 6 rfl dX1_addParts_21 ?_
        refine q_iadd (pc := 23) hX dX1_addParts_23 ?_
        refine q_iload_n (pc := 24) hX 1 rfl rfl dX1_addParts_24 ?_
        refine q_isub (pc := 25) hX dX1_addParts_25 ?_
        refine q_nm (fun z4 hz4 => ?_)
        have hE := bnd_nm hz4 hE
        refine q_istore (pc := 26) (lo' := [(0, .ref (o 33)), (1, .int x1), (2, .int x2), (3, .int x3), (4, .int x4), (5, .int x5), (6, .int y1), (7, .int y2), (8, .int z4)]) hX [1, 2, 3, 4, 5, 6, 7, 8, 0] (by decide) rfl dX1_addParts_26 ?_
        refine q_iload (pc := 28) hX 4 rfl dX1_addParts_28 ?_
        refine q_iload (pc := 30) hX 6 rfl dX1_addParts_30 ?_
        refine q_iadd (pc := 32) hX dX1_addParts_32 ?_
        refine q_iload_n (pc := 33) hX 1 rfl rfl dX1_addParts_33 ?_
        refine q_isub (pc := 34) hX dX1_addParts_34 ?_
        refine q_nm (fun z5 hz5 => ?_)
        have hE := bnd_nm hz5 hE
        refine q_istore (pc := 35) (lo' := [(0, .ref (o 33)), (1, .int x1), (2, .int x2), (3, .int x3), (4, .int x4), (5, .int x5), (6, .int y1), (7, .int y2), (8, .int z4), (9, .int z5)]) hX [1, 2, 3, 4, 5, 6, 7, 8, 9, 0] (by decide) rfl dX1_addParts_35 ?_
        refine q_iload_n (pc := 37) hX 2 rfl rfl dX1_addParts_37 ?_
        refine q_iload (pc := 38) hX 6 rfl dX1_addParts_38 ?_
        refine q_isub (pc := 40) hX dX1_addParts_40 ?_
        refine q_iload (pc := 41) hX 8 rfl dX1_addParts_41 ?_
        refine q_iload (pc := 43) hX 9 rfl dX1_addParts_43 ?_
        obtain ⟨r6, hr6, hE⟩ := ob_bind hE
        refine q_callS (pc := 45) (As := [.int z4, .int z5]) (rest := [.int (x2 - y1)]) (rv := some (.int r6)) (st' := [.int r6, .int (x2 - y1)]) hX (c_X1_untilLimit hr6) (sl_X1_79) pd_yX1_untilLimit rfl ⟨by decide, by decide⟩ ⟨Nat.le_of_ble_eq_true rfl, Nat.le_of_ble_eq_true rfl⟩ rfl (Nat.le_of_ble_eq_true rfl) rfl dX1_addParts_45 ?_
        refine r_min (pc := 48) hX kw_228 kw_191 kw_192 kw_193 (by decide) (Nat.le_of_ble_eq_true rfl) (Nat.le_of_ble_eq_true rfl) (Nat.le_of_ble_eq_true rfl) dX1_addParts_48 ?_
        refine q_nm (fun z7 hz7 => ?_)
        have hE := bnd_nm hz7 hE
        refine q_istore (pc := 51) (lo' := [(0, .ref (o 33)), (1, .int x1), (2, .int x2), (3, .int x3), (4, .int x4), (5, .int x5), (6, .int y1), (7, .int y2), (8, .int z4), (9, .int z5), (10, .int z7)]) hX [1, 2, 3, 4, 5, 6, 7, 8, 9, 10, 0] (by decide) rfl dX1_addParts_51 ?_
        refine q_aload_n (pc := 53) hX 0 rfl rfl dX1_addParts_53 ?_
        refine q_get (pc := 54) (id := 33) (ci := 1) (N := 3) (T := TX1) (C := RX1) hX 2 (lt46 (by decide)) rfl rfl in_X1 (by decide) (Or.inl kw_48) rfl dX1_addParts_54 ?_
        obtain ⟨r8, hr8, hE⟩ := ob_bind hE
        refine q_callV (pc := 57) (id := 36) (As := []) (rest := []) (rv := some (.int r8)) (st' := [.int r8]) hX (c_X4_size (tb_36 hn) hr8) (vl_X1_56) (lt46 (by decide)) (ob_T (tb_36 hn).1 _ _) rfl rfl pd_yX4_size rfl ⟨by decide, by decide⟩ ⟨Nat.le_of_ble_eq_true rfl, Nat.le_of_ble_eq_true rfl⟩ rfl (Nat.le_of_ble_eq_true rfl) rfl dX1_addParts_57 ?_
        refine q_istore (pc := 60) (lo' := [(0, .ref (o 33)), (1, .int x1), (2, .int x2), (3, .int x3), (4, .int x4), (5, .int x5), (6, .int y1), (7, .int y2), (8, .int z4), (9, .int z5), (10, .int z7), (11, .int r8)]) hX [1, 2, 3, 4, 5, 6, 7, 8, 9, 10, 11, 0] (by decide) rfl dX1_addParts_60 ?_
        refine q_aload_n (pc := 62) hX 0 rfl rfl dX1_addParts_62 ?_
        refine q_get (pc := 63) (id := 33) (ci := 1) (N := 3) (T := TX1) (C := RX1) hX 2 (lt46 (by decide)) rfl rfl in_X1 (by decide) (Or.inl kw_48) rfl dX1_addParts_63 ?_
        refine q_iload (pc := 66) hX 6 rfl dX1_addParts_66 ?_
        refine q_iload (pc := 68) hX 6 rfl dX1_addParts_68 ?_
        refine q_iload (pc := 70) hX 10 rfl dX1_addParts_70 ?_
        refine q_iadd (pc := 72) hX dX1_addParts_72 ?_
        obtain ⟨r9, hr9, hE⟩ := ob_bind hE
        refine q_callV (pc := 73) (id := 36) (As := [.int y1, .int (y1 + z7)]) (rest := []) (rv := none) (st' := []) hX (c_X4_addSpan (tb_36 hn) hr9) (vl_X1_69) (lt46 (by decide)) (ob_T (tb_36 hn).1 _ _) rfl rfl pd_yX4_addSpan rfl ⟨by decide, by decide⟩ ⟨Nat.le_of_ble_eq_true rfl, Nat.le_of_ble_eq_true rfl⟩ rfl (Nat.le_of_ble_eq_true rfl) rfl dX1_addParts_73 ?_
        refine q_aload_n (pc := 76) hX 0 rfl rfl dX1_addParts_76 ?_
        refine q_get (pc := 77) (id := 33) (ci := 1) (N := 3) (T := TX1) (C := RX1) hX 2 (lt46 (by decide)) rfl rfl in_X1 (by decide) (Or.inl kw_48) rfl dX1_addParts_77 ?_
        refine q_iload (pc := 80) hX 11 rfl dX1_addParts_80 ?_
        refine q_iconst (pc := 82) hX (2) rfl dX1_addParts_82 ?_
        refine q_iload (pc := 83) hX 8 rfl dX1_addParts_83 ?_
        refine q_iload (pc := 85) hX 9 rfl dX1_addParts_85 ?_
        refine q_iload (pc := 87) hX 5 rfl dX1_addParts_87 ?_
        obtain ⟨r10, hr10, hE⟩ := ob_bind hE
        refine q_callS (pc := 89) (As := [.int z4, .int z5, .int x5]) (rest := [.int 2, .int r8, .ref (o 36)]) (rv := some (.int r10)) (st' := [.int r10, .int 2, .int r8, .ref (o 36)]) hX (c_X1_categoryFor hr10) (sl_X1_82) pd_yX1_categoryFor rfl ⟨by decide, by decide⟩ ⟨Nat.le_of_ble_eq_true rfl, Nat.le_of_ble_eq_true rfl⟩ rfl (Nat.le_of_ble_eq_true rfl) rfl dX1_addParts_89 ?_
        obtain ⟨r11, hr11, hE⟩ := ob_bind hE
        refine q_callV (pc := 92) (id := 36) (As := [.int r8, .int 2, .int r10]) (rest := []) (rv := none) (st' := []) hX (c_X4_set (tb_36 hn) hr11) (vl_X1_86) (lt46 (by decide)) (ob_T (tb_36 hn).1 _ _) rfl rfl pd_yX4_set rfl ⟨by decide, by decide⟩ ⟨Nat.le_of_ble_eq_true rfl, Nat.le_of_ble_eq_true rfl⟩ rfl (Nat.le_of_ble_eq_true rfl) rfl dX1_addParts_92 ?_
        refine q_iload (pc := 95) hX 6 rfl dX1_addParts_95 ?_
        refine q_iload (pc := 97) hX 10 rfl dX1_addParts_97 ?_
        refine q_iadd (pc := 99) hX dX1_addParts_99 ?_
        refine q_nm (fun z12 hz12 => ?_)
        have hE := bnd_nm hz12 hE
        refine q_istore (pc := 100) (lo' := [(0, .ref (o 33)), (1, .int x1), (2, .int x2), (3, .int x3), (4, .int x4), (5, .int x5), (6, .int z12), (7, .int y2), (8, .int z4), (9, .int z5), (10, .int z7), (11, .int r8)]) hX [1, 2, 3, 4, 5, 6, 0, 7, 8, 9, 10, 11] (by decide) rfl dX1_addParts_100 ?_
        obtain ⟨z13, hz13⟩ : ∃ z : Int32, z = y2 + 1 := ⟨_, rfl⟩
        have hE := bnd_nm hz13 hE
        refine q_iinc (pc := 102) (lo' := [(0, .ref (o 33)), (1, .int x1), (2, .int x2), (3, .int x3), (4, .int x4), (5, .int x5), (6, .int z12), (7, .int z13), (8, .int z4), (9, .int z5), (10, .int z7), (11, .int r8)]) hX 7 z13 [1, 2, 3, 4, 5, 6, 7, 0, 8, 9, 10, 11] rfl (by rw [hz13]; rfl) (by decide) rfl dX1_addParts_102 ?_
        refine q_goto (pc := 105) hX 6 (by decide) dX1_addParts_105 ?_
        refine q_lo [0, 1, 2, 3, 4, 5, 6, 7] rfl ?_
        exact ih _ _ _ p14 hE hx

set_option maxHeartbeats 4000000 in
theorem c_X1_addParts {Y : Lx} {o : Nat → Nat} {hn : Nat} {M : Mem} {G : Mel} {x1 : Int32} {x2 : Int32} {x3 : Int32} {x4 : Int32} {x5 : Int32} {Mr : Mem} (hE : s_X1_addParts M x1 x2 x3 x4 x5 = some (Mr)) : MI Y yX1_addParts cX1_addParts 12 none 2 47 0 0 [.ref (o 33), .int x1, .int x2, .int x3, .int x4, .int x5] o hn M G (.inl (none)) Mr G := by
  refine MI.of (by decide +kernel) (Nat.le_of_ble_eq_true rfl) (fun X hY hX hE0 hR => ?_)
  change CxOK X RX1 cX1_addParts 12 2 47 0 0 none at hX
  show WM X o hn M G 0 0 0 12 [(0, .ref (o 33)), (1, .int x1), (2, .int x2), (3, .int x3), (4, .int x4), (5, .int x5)] []
  unfold s_X1_addParts at hE
  refine q_iload_n (pc := 0) hX 1 rfl rfl dX1_addParts_0 ?_
  refine q_istore (pc := 1) (lo' := [(0, .ref (o 33)), (1, .int x1), (2, .int x2), (3, .int x3), (4, .int x4), (5, .int x5), (6, .int x1)]) hX [1, 2, 3, 4, 5, 6, 0] (by decide) rfl dX1_addParts_1 ?_
  refine q_iconst (pc := 3) hX (0) rfl dX1_addParts_3 ?_
  refine q_istore (pc := 4) (lo' := [(0, .ref (o 33)), (1, .int x1), (2, .int x2), (3, .int x3), (4, .int x4), (5, .int x5), (6, .int x1), (7, .int 0)]) hX [1, 2, 3, 4, 5, 6, 7, 0] (by decide) rfl dX1_addParts_4 ?_
  obtain ⟨p14, hp14, hE⟩ := ob_bind hE
  refine l_X1_addParts_6 hX hE0 FU _ _ _ p14 hp14 ?_
  cases hE
  exact q_vret hX hR (by decide) (by decide) dX1_addParts_108

set_option maxHeartbeats 4000000 in
theorem l_X1_addPartsOfDay_6 {X : Cx} (hX : CxOK X RX1 cX1_addPartsOfDay 8 3 78 0 0 none) (hE0 : CxE X []) {o : Nat → Nat} {hn : Nat} {x1 : Int32} {x2 : Int32} {x3 : Int32} {G : Mel} : ∀ (f : Nat) (y1 : Int32) (y2 : Int32) (M3 : Mem) (p14 : Int32 × Int32 × Mem), L_X1_addPartsOfDay_6 x1 x2 x3 f y1 y2 M3 = some p14 → WM X o hn p14.2.2 G 0 0 98 8 [(0, .ref (o 33)), (1, .int x1), (2, .int x2), (3, .int x3), (4, .int p14.1), (5, .int p14.2.1)] [] → WM X o hn M3 G 0 0 6 8 [(0, .ref (o 33)), (1, .int x1), (2, .int x2), (3, .int x3), (4, .int y1), (5, .int y2)] [] := by
  intro f
  induction f with
  | zero => intro y1 y2 M3 p14 hE; simp [L_X1_addPartsOfDay_6] at hE
  | succ f ih =>
    intro y1 y2 M3 p14 hE hx
    rw [L_X1_addPartsOfDay_6] at hE
    refine q_iload (pc := 6) hX 5 rfl dX1_addPartsOfDay_6 ?_
    refine q_aload_n (pc := 8) hX 0 rfl rfl dX1_addPartsOfDay_8 ?_
    refine q_get (pc := 9) (id := 33) (ci := 1) (N := 3) (T := TX1) (C := RX1) hX 1 (lt46 (by decide)) rfl rfl in_X1 (by decide) (Or.inl kw_47) rfl dX1_addPartsOfDay_9 ?_
    obtain ⟨r4, hr4, hE⟩ := ob_bind hE
    refine q_callV (pc := 12) (id := 34) (As := []) (rest := [.int y2]) (rv := some (.int r4)) (st' := [.int r4, .int y2]) hX (c_X4_size (tb_34 hn) hr4) (vl_X1_56) (lt46 (by decide)) (ob_T (tb_34 hn).1 _ _) rfl rfl pd_yX4_size rfl ⟨by decide, by decide⟩ ⟨Nat.le_of_ble_eq_true rfl, Nat.le_of_ble_eq_true rfl⟩ rfl (Nat.le_of_ble_eq_true rfl) rfl dX1_addPartsOfDay_12 ?_
    refine q_icmp_ge (pc := 15) hX 98 (by decide) dX1_addPartsOfDay_15 (fun c => ?_) (fun c => ?_)
    · rw [if_pos c] at hE
      cases hE
      exact hx
    · rw [if_neg c] at hE
      refine q_aload_n (pc := 18) hX 0 rfl rfl dX1_addPartsOfDay_18 ?_
      refine q_get (pc := 19) (id := 33) (ci := 1) (N := 3) (T := TX1) (C := RX1) hX 1 (lt46 (by decide)) rfl rfl in_X1 (by decide) (Or.inl kw_47) rfl dX1_addPartsOfDay_19 ?_
      refine q_iload (pc := 22) hX 5 rfl dX1_addPartsOfDay_22 ?_
      refine q_iconst (pc := 24) hX (0) rfl dX1_addPartsOfDay_24 ?_
      obtain ⟨r5, hr5, hE⟩ := ob_bind hE
      refine q_callV (pc := 25) (id := 34) (As := [.int y2, .int 0]) (rest := []) (rv := some (.int r5)) (st' := [.int r5]) hX (c_X4_get (tb_34 hn) hr5) (vl_X1_60) (lt46 (by decide)) (ob_T (tb_34 hn).1 _ _) rfl rfl pd_yX4_get rfl ⟨by decide, by decide⟩ ⟨Nat.le_of_ble_eq_true rfl, Nat.le_of_ble_eq_true rfl⟩ rfl (Nat.le_of_ble_eq_true rfl) rfl dX1_addPartsOfDay_25 ?_
      refine q_iload_n (pc := 28) hX 1 rfl rfl dX1_addPartsOfDay_28 ?_
      refine q_sipush (pc := 29) hX (1440) (by decide) dX1_addPartsOfDay_29 ?_
      refine q_imul (pc := 32) hX dX1_addPartsOfDay_32 ?_
      refine r_max (pc := 33) hX kw_246 kw_200 kw_192 kw_201 (by decide) (Nat.le_of_ble_eq_true rfl) (Nat.le_of_ble_eq_true rfl) (Nat.le_of_ble_eq_true rfl) dX1_addPartsOfDay_33 ?_
      refine q_nm (fun z6 hz6 => ?_)
      have hE := bnd_nm hz6 hE
      refine q_istore (pc := 36) (lo' := [(0, .ref (o 33)), (1, .int x1), (2, .int x2), (3, .int x3), (4, .int y1), (5, .int y2), (6, .int z6)]) hX [1, 2, 3, 4, 5, 6, 0] (by decide) rfl dX1_addPartsOfDay_36 ?_
      refine q_aload_n (pc := 38) hX 0 rfl rfl dX1_addPartsOfDay_38 ?_
      refine q_get (pc := 39) (id := 33) (ci := 1) (N := 3) (T := TX1) (C := RX1) hX 1 (lt46 (by decide)) rfl rfl in_X1 (by decide) (Or.inl kw_47) rfl dX1_addPartsOfDay_39 ?_
      refine q_iload (pc := 42) hX 5 rfl dX1_addPartsOfDay_42 ?_
      refine q_iconst (pc := 44) hX (1) rfl dX1_addPartsOfDay_44 ?_
      obtain ⟨r7, hr7, hE⟩ := ob_bind hE
      refine q_callV (pc := 45) (id := 34) (As := [.int y2, .int 1]) (rest := []) (rv := some (.int r7)) (st' := [.int r7]) hX (c_X4_get (tb_34 hn) hr7) (vl_X1_60) (lt46 (by decide)) (ob_T (tb_34 hn).1 _ _) rfl rfl pd_yX4_get rfl ⟨by decide, by decide⟩ ⟨Nat.le_of_ble_eq_true rfl, Nat.le_of_ble_eq_true rfl⟩ rfl (Nat.le_of_ble_eq_true rfl) rfl dX1_addPartsOfDay_45 ?_
      refine q_iload_n (pc := 48) hX 1 rfl rfl dX1_addPartsOfDay_48 ?_
      refine q_iconst (pc := 49) hX (1) rfl dX1_addPartsOfDay_49 ?_
      refine q_iadd (pc := 50) hX dX1_addPartsOfDay_50 ?_
      refine q_sipush (pc := 51) hX (1440) (by decide) dX1_addPartsOfDay_51 ?_
      refine q_imul (pc := 54) hX dX1_addPartsOfDay_54 ?_
      refine r_min (pc := 55) hX kw_228 kw_191 kw_192 kw_193 (by decide) (Nat.le_of_ble_eq_true rfl) (Nat.le_of_ble_eq_true rfl) (Nat.le_of_ble_eq_true rfl) dX1_addPartsOfDay_55 ?_
      refine q_nm (fun z8 hz8 => ?_)
      have hE := bnd_nm hz8 hE
      refine q_istore (pc := 58) (lo' := [(0, .ref (o 33)), (1, .int x1), (2, .int x2), (3, .int x3), (4, .int y1), (5, .int y2), (6, .int z6), (7, .int z8)]) hX [1, 2, 3, 4, 5, 6, 7, 0] (by decide) rfl dX1_addPartsOfDay_58 ?_
      refine q_iload (pc := 60) hX 6 rfl dX1_addPartsOfDay_60 ?_
      refine q_iload (pc := 62) hX 7 rfl dX1_addPartsOfDay_62 ?_
      obtain ⟨p12, hp12, hE⟩ := ob_bind hE
      suffices Jp12 : WM X o hn p12.2 G 0 0 92 8 [(0, .ref (o 33)), (1, .int x1), (2, .int x2), (3, .int x3), (4, .int p12.1), (5, .int y2)] [] by
        refine q_icmp_ge (pc := 64) hX 92 (by decide) dX1_addPartsOfDay_64 (fun c => ?_) (fun c => ?_)
        · rw [if_pos c] at hp12
          refine q_lo [0, 1, 2, 3, 4, 5] rfl ?_
          cases hp12
          exact Jp12
        · rw [if_neg c] at hp12
          refine q_aload_n (pc := 67) hX 0 rfl rfl dX1_addPartsOfDay_67 ?_
          refine q_iload (pc := 68) hX 6 rfl dX1_addPartsOfDay_68 ?_
          refine q_iload (pc := 70) hX 7 rfl dX1_addPartsOfDay_70 ?_
          refine q_iload (pc := 72) hX 4 rfl dX1_addPartsOfDay_72 ?_
          refine q_iload_n (pc := 74) hX 2 rfl rfl dX1_addPartsOfDay_74 ?_
          refine q_iload (pc := 75) hX 4 rfl dX1_addPartsOfDay_75 ?_
          refine q_iadd (pc := 77) hX dX1_addPartsOfDay_77 ?_
          refine q_iload_n (pc := 78) hX 3 rfl rfl dX1_addPartsOfDay_78 ?_
          obtain ⟨r10, hr10, hp12⟩ := ob_bind hp12
          refine q_callV (pc := 79) (id := 33) (As := [.int z6, .int z8, .int y1, .int (x2 + y1), .int x3]) (rest := []) (rv := none) (st' := []) hX (c_X1_addParts hr10) (vl_X1_75) (lt46 (by decide)) rfl rfl rfl pd_yX1_addParts rfl ⟨by decide, by decide⟩ ⟨Nat.le_of_ble_eq_true rfl, Nat.le_of_ble_eq_true rfl⟩ rfl (Nat.le_of_ble_eq_true rfl) rfl dX1_addPartsOfDay_79 ?_
          refine q_iload (pc := 82) hX 4 rfl dX1_addPartsOfDay_82 ?_
          refine q_iload (pc := 84) hX 7 rfl dX1_addPartsOfDay_84 ?_
          refine q_iload (pc := 86) hX 6 rfl dX1_addPartsOfDay_86 ?_
          refine q_isub (pc := 88) hX dX1_addPartsOfDay_88 ?_
          refine q_iadd (pc := 89) hX dX1_addPartsOfDay_89 ?_
          refine q_nm (fun z11 hz11 => ?_)
          have hp12 := bnd_nm hz11 hp12
          refine q_istore (pc := 90) (lo' := [(0, .ref (o 33)), (1, .int x1), (2, .int x2), (3, .int x3), (4, .int z11), (5, .int y2), (6, .int z6), (7, .int z8)]) hX [1, 2, 3, 4, 0, 5, 6, 7] (by decide) rfl dX1_addPartsOfDay_90 ?_
          refine q_lo [0, 1, 2, 3, 4, 5] rfl ?_
          cases hp12
          exact Jp12
      obtain ⟨z13, hz13⟩ : ∃ z : Int32, z = y2 + 1 := ⟨_, rfl⟩
      have hE := bnd_nm hz13 hE
      refine q_iinc (pc := 92) (lo' := [(0, .ref (o 33)), (1, .int x1), (2, .int x2), (3, .int x3), (4, .int p12.1), (5, .int z13)]) hX 5 z13 [1, 2, 3, 4, 5, 0] rfl (by rw [hz13]; rfl) (by decide) rfl dX1_addPartsOfDay_92 ?_
      refine q_goto (pc := 95) hX 6 (by decide) dX1_addPartsOfDay_95 ?_
      exact ih _ _ _ p14 hE hx

set_option maxHeartbeats 4000000 in
theorem c_X1_addPartsOfDay {Y : Lx} {o : Nat → Nat} {hn : Nat} {M : Mem} {G : Mel} {x1 : Int32} {x2 : Int32} {x3 : Int32} {Mr : Mem} (hE : s_X1_addPartsOfDay M x1 x2 x3 = some (Mr)) : MI Y yX1_addPartsOfDay cX1_addPartsOfDay 8 none 3 78 0 0 [.ref (o 33), .int x1, .int x2, .int x3] o hn M G (.inl (none)) Mr G := by
  refine MI.of (by decide +kernel) (Nat.le_of_ble_eq_true rfl) (fun X hY hX hE0 hR => ?_)
  change CxOK X RX1 cX1_addPartsOfDay 8 3 78 0 0 none at hX
  show WM X o hn M G 0 0 0 8 [(0, .ref (o 33)), (1, .int x1), (2, .int x2), (3, .int x3)] []
  unfold s_X1_addPartsOfDay at hE
  refine q_iconst (pc := 0) hX (0) rfl dX1_addPartsOfDay_0 ?_
  refine q_istore (pc := 1) (lo' := [(0, .ref (o 33)), (1, .int x1), (2, .int x2), (3, .int x3), (4, .int 0)]) hX [1, 2, 3, 4, 0] (by decide) rfl dX1_addPartsOfDay_1 ?_
  refine q_iconst (pc := 3) hX (0) rfl dX1_addPartsOfDay_3 ?_
  refine q_istore (pc := 4) (lo' := [(0, .ref (o 33)), (1, .int x1), (2, .int x2), (3, .int x3), (4, .int 0), (5, .int 0)]) hX [1, 2, 3, 4, 5, 0] (by decide) rfl dX1_addPartsOfDay_4 ?_
  obtain ⟨p14, hp14, hE⟩ := ob_bind hE
  refine l_X1_addPartsOfDay_6 hX hE0 FU _ _ _ p14 hp14 ?_
  cases hE
  exact q_vret hX hR (by decide) (by decide) dX1_addPartsOfDay_98

set_option maxHeartbeats 4000000 in
theorem l_X1_read_36 {X : Cx} (hX : CxOK X RX1 cX1_read 5 5 116 0 0 none) (hE0 : CxE X []) {o : Nat → Nat} {hn : Nat} {G : Mel} {r4 : Int32} : ∀ (f : Nat) (y5 : Int32) (y6 : Int32) (M7 : Mem) (p14 : Int32 × Int32 × Mem), L_X1_read_36 r4 f y5 y6 M7 = some p14 → WM X o hn p14.2.2 G 0 0 84 5 [(0, .ref (o 33)), (2, .int r4), (3, .int p14.1), (4, .int p14.2.1)] [] → WM X o hn M7 G 0 0 36 5 [(0, .ref (o 33)), (2, .int r4), (3, .int y5), (4, .int y6)] [] := by
  intro f
  induction f with
  | zero => intro y5 y6 M7 p14 hE; simp [L_X1_read_36] at hE
  | succ f ih =>
    intro y5 y6 M7 p14 hE hx
    rw [L_X1_read_36] at hE
    refine q_iload (pc := 36) hX 3 rfl dX1_read_36 ?_
    refine q_bipush (pc := 38) hX (7) (by decide) dX1_read_38 ?_
    refine q_icmp_ge (pc := 40) hX 84 (by decide) dX1_read_40 (fun c => ?_) (fun c => ?_)
    · rw [if_pos c] at hE
      cases hE
      exact hx
    · rw [if_neg c] at hE
      refine q_aload_n (pc := 43) hX 0 rfl rfl dX1_read_43 ?_
      refine q_iload (pc := 44) hX 3 rfl dX1_read_44 ?_
      refine q_iload_n (pc := 46) hX 2 rfl rfl dX1_read_46 ?_
      refine q_iload_n (pc := 47) hX 1 rfl rfl dX1_read_47 ?_
      obtain ⟨p9, hp9, hE⟩ := bnd_ob hE
      suffices Jp9 : WM X o hn M7 G 0 0 63 5 [(0, .ref (o 33)), (2, .int r4), (3, .int y5), (4, .int y6)] [.int p9, .int y5, .int y6, .ref (o 33)] by
        refine q_if_eq (pc := 48) hX 62 (by decide) dX1_read_48 (fun c => ?_) (fun c => ?_)
        · rw [if_pos c] at hp9
          refine q_iconst (pc := 62) hX (0) rfl dX1_read_62 ?_
          cases hp9
          exact Jp9
        · rw [if_neg c] at hp9
          refine q_iload (pc := 51) hX 3 rfl dX1_read_51 ?_
          refine q_bipush (pc := 53) hX (6) (by decide) dX1_read_53 ?_
          refine q_icmp_ne (pc := 55) hX 62 (by decide) dX1_read_55 (fun c => ?_) (fun c => ?_)
          · rw [if_neg c] at hp9
            refine q_iconst (pc := 62) hX (0) rfl dX1_read_62 ?_
            cases hp9
            exact Jp9
          · rw [if_pos c] at hp9
            refine q_iconst (pc := 58) hX (1) rfl dX1_read_58 ?_
            refine q_goto (pc := 59) hX 63 (by decide) dX1_read_59 ?_
            cases hp9
            exact Jp9
      obtain ⟨r10, hr10, hE⟩ := ob_bind hE
      refine q_callV (pc := 63) (id := 33) (As := [.int y6, .int y5, .int p9]) (rest := []) (rv := none) (st' := []) hX (c_X1_addPartsOfDay hr10) (vl_X1_48) (lt46 (by decide)) rfl rfl rfl pd_yX1_addPartsOfDay rfl ⟨by decide, by decide⟩ ⟨Nat.le_of_ble_eq_true rfl, Nat.le_of_ble_eq_true rfl⟩ rfl (Nat.le_of_ble_eq_true rfl) rfl dX1_read_63 ?_
      refine q_iload_n (pc := 66) hX 2 rfl rfl dX1_read_66 ?_
      refine q_aload_n (pc := 67) hX 0 rfl rfl dX1_read_67 ?_
      refine q_get (pc := 68) (id := 33) (ci := 1) (N := 3) (T := TX1) (C := RX1) hX 1 (lt46 (by decide)) rfl rfl in_X1 (by decide) (Or.inl kw_47) rfl dX1_read_68 ?_
      refine q_iload (pc := 71) hX 3 rfl dX1_read_71 ?_
      obtain ⟨r11, hr11, hE⟩ := ob_bind hE
      refine q_callSN (pc := 73) (As := [.ref (o 34), .int y6]) (rest := [.int y5]) (rv := some (.int r11)) (st' := [.int r11, .int y5]) hX (c_X6_minutesOnDay (tb_34 hn) hr11) mn_X1_52 kw_237 kw_2 kw_238 (by decide) pd_yX6_minutesOnDay rfl ⟨by decide, by decide⟩ ⟨Nat.le_of_ble_eq_true rfl, Nat.le_of_ble_eq_true rfl⟩ rfl (Nat.le_of_ble_eq_true rfl) rfl dX1_read_73 ?_
      refine q_iadd (pc := 76) hX dX1_read_76 ?_
      refine q_nm (fun z12 hz12 => ?_)
      have hE := bnd_nm hz12 hE
      refine q_istore_n (pc := 77) (lo' := [(0, .ref (o 33)), (2, .int r4), (3, .int z12), (4, .int y6)]) hX [1, 2, 0, 3] rfl (by decide) rfl dX1_read_77 ?_
      obtain ⟨z13, hz13⟩ : ∃ z : Int32, z = y6 + 1 := ⟨_, rfl⟩
      have hE := bnd_nm hz13 hE
      refine q_iinc (pc := 78) (lo' := [(0, .ref (o 33)), (2, .int r4), (3, .int z12), (4, .int z13)]) hX 3 z13 [1, 2, 3, 0] rfl (by rw [hz13]; rfl) (by decide) rfl dX1_read_78 ?_
      refine q_goto (pc := 81) hX 36 (by decide) dX1_read_81 ?_
      exact ih _ _ _ p14 hE hx

set_option maxHeartbeats 4000000 in
theorem c_X1_read {Y : Lx} {o : Nat → Nat} {hn : Nat} {M : Mem} {G : Mel} {e1 : Nat} {Mr : Mem} (he1 : em hn e1) (hE : s_X1_read M e1 = some (Mr)) : MI Y yX1_read cX1_read 5 none 5 116 0 0 [.ref (o 33), .ref (o e1)] o hn M G (.inl (none)) Mr G := by
  refine MI.of (by decide +kernel) (Nat.le_of_ble_eq_true rfl) (fun X hY hX hE0 hR => ?_)
  change CxOK X RX1 cX1_read 5 5 116 0 0 none at hX
  show WM X o hn M G 0 0 0 5 [(0, .ref (o 33)), (1, .ref (o e1))] []
  unfold s_X1_read at hE
  refine q_aload_n (pc := 0) hX 0 rfl rfl dX1_read_0 ?_
  refine q_get (pc := 1) (id := 33) (ci := 1) (N := 3) (T := TX1) (C := RX1) hX 0 (lt46 (by decide)) rfl rfl in_X1 (by decide) (Or.inl kw_45) rfl dX1_read_1 ?_
  refine q_aload_n (pc := 4) hX 1 rfl rfl dX1_read_4 ?_
  obtain ⟨r1, hr1, hE⟩ := ob_bind hE
  refine q_callV (pc := 5) (id := 38) (As := [.ref (o e1)]) (rest := []) (rv := none) (st' := []) hX (c_X5_read he1 hr1) (vl_X1_30) (lt46 (by decide)) rfl rfl rfl pd_yX5_read rfl ⟨by decide, by decide⟩ ⟨Nat.le_of_ble_eq_true rfl, Nat.le_of_ble_eq_true rfl⟩ rfl (Nat.le_of_ble_eq_true rfl) rfl dX1_read_5 ?_
  refine q_aload_n (pc := 8) hX 0 rfl rfl dX1_read_8 ?_
  refine q_aload_n (pc := 9) hX 0 rfl rfl dX1_read_9 ?_
  refine q_get (pc := 10) (id := 33) (ci := 1) (N := 3) (T := TX1) (C := RX1) hX 0 (lt46 (by decide)) rfl rfl in_X1 (by decide) (Or.inl kw_45) rfl dX1_read_10 ?_
  refine q_get (pc := 13) (id := 38) (ci := 5) (N := 4) (T := TX5) (C := RX5) hX 2 (lt46 (by decide)) rfl rfl in_X5 (by decide) (Or.inr ⟨_, fn_X1_34⟩) rfl dX1_read_13 ?_
  obtain ⟨r2, hr2, hE⟩ := ob_bind hE
  refine q_callV (pc := 16) (id := 33) (As := [.ref (o 41)]) (rest := []) (rv := none) (st' := []) hX (c_X1_takeOffAutomaticBreaks (tb_41 hn) hr2) (vl_X1_37) (lt46 (by decide)) rfl rfl rfl pd_yX1_takeOffAutomaticBreaks rfl ⟨by decide, by decide⟩ ⟨Nat.le_of_ble_eq_true rfl, Nat.le_of_ble_eq_true rfl⟩ rfl (Nat.le_of_ble_eq_true rfl) rfl dX1_read_16 ?_
  refine q_aload_n (pc := 19) hX 0 rfl rfl dX1_read_19 ?_
  refine q_get (pc := 20) (id := 33) (ci := 1) (N := 3) (T := TX1) (C := RX1) hX 2 (lt46 (by decide)) rfl rfl in_X1 (by decide) (Or.inl kw_48) rfl dX1_read_20 ?_
  obtain ⟨r3, hr3, hE⟩ := ob_bind hE
  refine q_callV (pc := 23) (id := 36) (As := []) (rest := []) (rv := none) (st' := []) hX (c_X4_clear (tb_36 hn) hr3) (vl_X1_41) (lt46 (by decide)) (ob_T (tb_36 hn).1 _ _) rfl rfl pd_yX4_clear rfl ⟨by decide, by decide⟩ ⟨Nat.le_of_ble_eq_true rfl, Nat.le_of_ble_eq_true rfl⟩ rfl (Nat.le_of_ble_eq_true rfl) rfl dX1_read_23 ?_
  refine q_aload_n (pc := 26) hX 0 rfl rfl dX1_read_26 ?_
  obtain ⟨r4, hr4, hE⟩ := ob_bind hE
  refine q_callV (pc := 27) (id := 33) (As := []) (rest := []) (rv := some (.int r4)) (st' := [.int r4]) hX (c_X1_isFull hr4) (vl_X1_44) (lt46 (by decide)) rfl rfl rfl pd_yX1_isFull rfl ⟨by decide, by decide⟩ ⟨Nat.le_of_ble_eq_true rfl, Nat.le_of_ble_eq_true rfl⟩ rfl (Nat.le_of_ble_eq_true rfl) rfl dX1_read_27 ?_
  refine q_istore_n (pc := 30) (lo' := [(0, .ref (o 33)), (1, .ref (o e1)), (2, .int r4)]) hX [1, 2, 0] rfl (by decide) rfl dX1_read_30 ?_
  refine q_iconst (pc := 31) hX (0) rfl dX1_read_31 ?_
  refine q_istore_n (pc := 32) (lo' := [(0, .ref (o 33)), (1, .ref (o e1)), (2, .int r4), (3, .int 0)]) hX [1, 2, 3, 0] rfl (by decide) rfl dX1_read_32 ?_
  refine q_iconst (pc := 33) hX (0) rfl dX1_read_33 ?_
  refine q_istore (pc := 34) (lo' := [(0, .ref (o 33)), (1, .ref (o e1)), (2, .int r4), (3, .int 0), (4, .int 0)]) hX [1, 2, 3, 4, 0] (by decide) rfl dX1_read_34 ?_
  obtain ⟨p14, hp14, hE⟩ := ob_bind hE
  refine q_lo [0, 2, 3, 4] rfl ?_
  refine l_X1_read_36 hX hE0 FU _ _ _ p14 hp14 ?_
  cases hE
  exact q_vret hX hR (by decide) (by decide) dX1_read_84

set_option maxHeartbeats 4000000 in
theorem l_X1_minutesOf_5 {X : Cx} (hX : CxOK X RX1 cX1_minutesOf 5 1 23 0 0 (some .int)) (hE0 : CxE X []) {o : Nat → Nat} {hn : Nat} {M : Mem} {x1 : Int32} {x2 : Int32} {G : Mel} : ∀ (f : Nat) (y1 : Int32) (y2 : Int32) (p12 : Int32 × Int32), L_X1_minutesOf_5 M x1 x2 f y1 y2 = some p12 → WM X o hn M G 0 0 79 5 [(0, .ref (o 33)), (1, .int x1), (2, .int x2), (3, .int p12.1), (4, .int p12.2)] [] → WM X o hn M G 0 0 5 5 [(0, .ref (o 33)), (1, .int x1), (2, .int x2), (3, .int y1), (4, .int y2)] [] := by
  intro f
  induction f with
  | zero => intro y1 y2 p12 hE; simp [L_X1_minutesOf_5] at hE
  | succ f ih =>
    intro y1 y2 p12 hE hx
    rw [L_X1_minutesOf_5] at hE
    refine q_iload (pc := 5) hX 4 rfl dX1_minutesOf_5 ?_
    refine q_aload_n (pc := 7) hX 0 rfl rfl dX1_minutesOf_7 ?_
    refine q_get (pc := 8) (id := 33) (ci := 1) (N := 3) (T := TX1) (C := RX1) hX 2 (lt46 (by decide)) rfl rfl in_X1 (by decide) (Or.inl kw_48) rfl dX1_minutesOf_8 ?_
    obtain ⟨r3, hr3, hE⟩ := ob_bind hE
    refine q_callV (pc := 11) (id := 36) (As := []) (rest := [.int y2]) (rv := some (.int r3)) (st' := [.int r3, .int y2]) hX (c_X4_size (tb_36 hn) hr3) (vl_X1_56) (lt46 (by decide)) (ob_T (tb_36 hn).1 _ _) rfl rfl pd_yX4_size rfl ⟨by decide, by decide⟩ ⟨Nat.le_of_ble_eq_true rfl, Nat.le_of_ble_eq_true rfl⟩ rfl (Nat.le_of_ble_eq_true rfl) rfl dX1_minutesOf_11 ?_
    refine q_icmp_ge (pc := 14) hX 79 (by decide) dX1_minutesOf_14 (fun c => ?_) (fun c => ?_)
    · rw [if_pos c] at hE
      cases hE
      exact hx
    · rw [if_neg c] at hE
      refine q_aload_n (pc := 17) hX 0 rfl rfl dX1_minutesOf_17 ?_
      refine q_get (pc := 18) (id := 33) (ci := 1) (N := 3) (T := TX1) (C := RX1) hX 2 (lt46 (by decide)) rfl rfl in_X1 (by decide) (Or.inl kw_48) rfl dX1_minutesOf_18 ?_
      refine q_iload (pc := 21) hX 4 rfl dX1_minutesOf_21 ?_
      refine q_iconst (pc := 23) hX (2) rfl dX1_minutesOf_23 ?_
      obtain ⟨r4, hr4, hE⟩ := ob_bind hE
      refine q_callV (pc := 24) (id := 36) (As := [.int y2, .int 2]) (rest := []) (rv := some (.int r4)) (st' := [.int r4]) hX (c_X4_get (tb_36 hn) hr4) (vl_X1_60) (lt46 (by decide)) (ob_T (tb_36 hn).1 _ _) rfl rfl pd_yX4_get rfl ⟨by decide, by decide⟩ ⟨Nat.le_of_ble_eq_true rfl, Nat.le_of_ble_eq_true rfl⟩ rfl (Nat.le_of_ble_eq_true rfl) rfl dX1_minutesOf_24 ?_
      refine q_iload_n (pc := 27) hX 2 rfl rfl dX1_minutesOf_27 ?_
      obtain ⟨p10, hp10, hE⟩ := ob_bind hE
      suffices Jp10 : WM X o hn M G 0 0 73 5 [(0, .ref (o 33)), (1, .int x1), (2, .int x2), (3, .int p10), (4, .int y2)] [] by
        refine q_icmp_ne (pc := 28) hX 73 (by decide) dX1_minutesOf_28 (fun c => ?_) (fun c => ?_)
        · rw [if_neg c] at hp10
          cases hp10
          exact Jp10
        · rw [if_pos c] at hp10
          refine q_aload_n (pc := 31) hX 0 rfl rfl dX1_minutesOf_31 ?_
          refine q_get (pc := 32) (id := 33) (ci := 1) (N := 3) (T := TX1) (C := RX1) hX 2 (lt46 (by decide)) rfl rfl in_X1 (by decide) (Or.inl kw_48) rfl dX1_minutesOf_32 ?_
          refine q_iload (pc := 35) hX 4 rfl dX1_minutesOf_35 ?_
          refine q_iconst (pc := 37) hX (0) rfl dX1_minutesOf_37 ?_
          obtain ⟨r6, hr6, hp10⟩ := ob_bind hp10
          refine q_callV (pc := 38) (id := 36) (As := [.int y2, .int 0]) (rest := []) (rv := some (.int r6)) (st' := [.int r6]) hX (c_X4_get (tb_36 hn) hr6) (vl_X1_60) (lt46 (by decide)) (ob_T (tb_36 hn).1 _ _) rfl rfl pd_yX4_get rfl ⟨by decide, by decide⟩ ⟨Nat.le_of_ble_eq_true rfl, Nat.le_of_ble_eq_true rfl⟩ rfl (Nat.le_of_ble_eq_true rfl) rfl dX1_minutesOf_38 ?_
          refine q_sipush (pc := 41) hX (1440) (by decide) dX1_minutesOf_41 ?_
          refine q_idiv (pc := 44) hX (by decide) dX1_minutesOf_44 ?_
          refine q_iload_n (pc := 45) hX 1 rfl rfl dX1_minutesOf_45 ?_
          refine q_icmp_ne (pc := 46) hX 73 (by decide) dX1_minutesOf_46 (fun c => ?_) (fun c => ?_)
          · rw [if_neg c] at hp10
            cases hp10
            exact Jp10
          · rw [if_pos c] at hp10
            refine q_iload_n (pc := 49) hX 3 rfl rfl dX1_minutesOf_49 ?_
            refine q_aload_n (pc := 50) hX 0 rfl rfl dX1_minutesOf_50 ?_
            refine q_get (pc := 51) (id := 33) (ci := 1) (N := 3) (T := TX1) (C := RX1) hX 2 (lt46 (by decide)) rfl rfl in_X1 (by decide) (Or.inl kw_48) rfl dX1_minutesOf_51 ?_
            refine q_iload (pc := 54) hX 4 rfl dX1_minutesOf_54 ?_
            refine q_iconst (pc := 56) hX (1) rfl dX1_minutesOf_56 ?_
            obtain ⟨r7, hr7, hp10⟩ := ob_bind hp10
            refine q_callV (pc := 57) (id := 36) (As := [.int y2, .int 1]) (rest := [.int y1]) (rv := some (.int r7)) (st' := [.int r7, .int y1]) hX (c_X4_get (tb_36 hn) hr7) (vl_X1_60) (lt46 (by decide)) (ob_T (tb_36 hn).1 _ _) rfl rfl pd_yX4_get rfl ⟨by decide, by decide⟩ ⟨Nat.le_of_ble_eq_true rfl, Nat.le_of_ble_eq_true rfl⟩ rfl (Nat.le_of_ble_eq_true rfl) rfl dX1_minutesOf_57 ?_
            refine q_aload_n (pc := 60) hX 0 rfl rfl dX1_minutesOf_60 ?_
            refine q_get (pc := 61) (id := 33) (ci := 1) (N := 3) (T := TX1) (C := RX1) hX 2 (lt46 (by decide)) rfl rfl in_X1 (by decide) (Or.inl kw_48) rfl dX1_minutesOf_61 ?_
            refine q_iload (pc := 64) hX 4 rfl dX1_minutesOf_64 ?_
            refine q_iconst (pc := 66) hX (0) rfl dX1_minutesOf_66 ?_
            obtain ⟨r8, hr8, hp10⟩ := ob_bind hp10
            refine q_callV (pc := 67) (id := 36) (As := [.int y2, .int 0]) (rest := [.int r7, .int y1]) (rv := some (.int r8)) (st' := [.int r8, .int r7, .int y1]) hX (c_X4_get (tb_36 hn) hr8) (vl_X1_60) (lt46 (by decide)) (ob_T (tb_36 hn).1 _ _) rfl rfl pd_yX4_get rfl ⟨by decide, by decide⟩ ⟨Nat.le_of_ble_eq_true rfl, Nat.le_of_ble_eq_true rfl⟩ rfl (Nat.le_of_ble_eq_true rfl) rfl dX1_minutesOf_67 ?_
            refine q_isub (pc := 70) hX dX1_minutesOf_70 ?_
            refine q_iadd (pc := 71) hX dX1_minutesOf_71 ?_
            refine q_nm (fun z9 hz9 => ?_)
            have hp10 := bnd_nm hz9 hp10
            refine q_istore_n (pc := 72) (lo' := [(0, .ref (o 33)), (1, .int x1), (2, .int x2), (3, .int z9), (4, .int y2)]) hX [1, 2, 3, 0, 4] rfl (by decide) rfl dX1_minutesOf_72 ?_
            cases hp10
            exact Jp10
      obtain ⟨z11, hz11⟩ : ∃ z : Int32, z = y2 + 1 := ⟨_, rfl⟩
      have hE := bnd_nm hz11 hE
      refine q_iinc (pc := 73) (lo' := [(0, .ref (o 33)), (1, .int x1), (2, .int x2), (3, .int p10), (4, .int z11)]) hX 4 z11 [1, 2, 3, 4, 0] rfl (by rw [hz11]; rfl) (by decide) rfl dX1_minutesOf_73 ?_
      refine q_goto (pc := 76) hX 5 (by decide) dX1_minutesOf_76 ?_
      exact ih _ _ p12 hE hx

set_option maxHeartbeats 4000000 in
theorem c_X1_minutesOf {Y : Lx} {o : Nat → Nat} {hn : Nat} {M : Mem} {G : Mel} {x1 : Int32} {x2 : Int32} {rr : Int32} (hE : s_X1_minutesOf M x1 x2 = some (rr)) : MI Y yX1_minutesOf cX1_minutesOf 5 (some .int) 1 23 0 0 [.ref (o 33), .int x1, .int x2] o hn M G (.inl (some (.int rr))) M G := by
  refine MI.of (by decide +kernel) (Nat.le_of_ble_eq_true rfl) (fun X hY hX hE0 hR => ?_)
  change CxOK X RX1 cX1_minutesOf 5 1 23 0 0 (some .int) at hX
  show WM X o hn M G 0 0 0 5 [(0, .ref (o 33)), (1, .int x1), (2, .int x2)] []
  unfold s_X1_minutesOf at hE
  refine q_iconst (pc := 0) hX (0) rfl dX1_minutesOf_0 ?_
  refine q_istore_n (pc := 1) (lo' := [(0, .ref (o 33)), (1, .int x1), (2, .int x2), (3, .int 0)]) hX [1, 2, 3, 0] rfl (by decide) rfl dX1_minutesOf_1 ?_
  refine q_iconst (pc := 2) hX (0) rfl dX1_minutesOf_2 ?_
  refine q_istore (pc := 3) (lo' := [(0, .ref (o 33)), (1, .int x1), (2, .int x2), (3, .int 0), (4, .int 0)]) hX [1, 2, 3, 4, 0] (by decide) rfl dX1_minutesOf_3 ?_
  obtain ⟨p12, hp12, hE⟩ := ob_bind hE
  refine l_X1_minutesOf_5 hX hE0 FU _ _ p12 hp12 ?_
  refine q_iload_n (pc := 79) hX 3 rfl rfl dX1_minutesOf_79 ?_
  cases hE
  exact q_iret hX hR (by decide) (by decide) dX1_minutesOf_80

set_option maxHeartbeats 4000000 in
theorem l_X1_quartersOfWeek_4 {X : Cx} (hX : CxOK X RX1 cX1_quartersOfWeek 4 2 47 0 0 (some .int)) (hE0 : CxE X []) {o : Nat → Nat} {hn : Nat} {M : Mem} {x1 : Int32} {G : Mel} : ∀ (f : Nat) (y1 : Int32) (y2 : Int32) (p6 : Int32 × Int32), L_X1_quartersOfWeek_4 M x1 f y1 y2 = some p6 → WM X o hn M G 0 0 25 4 [(0, .ref (o 33)), (1, .int x1), (2, .int p6.1), (3, .int p6.2)] [] → WM X o hn M G 0 0 4 4 [(0, .ref (o 33)), (1, .int x1), (2, .int y1), (3, .int y2)] [] := by
  intro f
  induction f with
  | zero => intro y1 y2 p6 hE; simp [L_X1_quartersOfWeek_4] at hE
  | succ f ih =>
    intro y1 y2 p6 hE hx
    rw [L_X1_quartersOfWeek_4] at hE
    refine q_iload_n (pc := 4) hX 3 rfl rfl dX1_quartersOfWeek_4 ?_
    refine q_bipush (pc := 5) hX (7) (by decide) dX1_quartersOfWeek_5 ?_
    refine q_icmp_ge (pc := 7) hX 25 (by decide) dX1_quartersOfWeek_7 (fun c => ?_) (fun c => ?_)
    · rw [if_pos c] at hE
      cases hE
      exact hx
    · rw [if_neg c] at hE
      refine q_iload_n (pc := 10) hX 2 rfl rfl dX1_quartersOfWeek_10 ?_
      refine q_aload_n (pc := 11) hX 0 rfl rfl dX1_quartersOfWeek_11 ?_
      refine q_iload_n (pc := 12) hX 3 rfl rfl dX1_quartersOfWeek_12 ?_
      refine q_iload_n (pc := 13) hX 1 rfl rfl dX1_quartersOfWeek_13 ?_
      obtain ⟨r3, hr3, hE⟩ := ob_bind hE
      refine q_callV (pc := 14) (id := 33) (As := [.int y2, .int x1]) (rest := [.int y1]) (rv := some (.int r3)) (st' := [.int r3, .int y1]) hX (c_X1_minutesOf hr3) (vl_X1_90) (lt46 (by decide)) rfl rfl rfl pd_yX1_minutesOf rfl ⟨by decide, by decide⟩ ⟨Nat.le_of_ble_eq_true rfl, Nat.le_of_ble_eq_true rfl⟩ rfl (Nat.le_of_ble_eq_true rfl) rfl dX1_quartersOfWeek_14 ?_
      refine q_iadd (pc := 17) hX dX1_quartersOfWeek_17 ?_
      refine q_nm (fun z4 hz4 => ?_)
      have hE := bnd_nm hz4 hE
      refine q_istore_n (pc := 18) (lo' := [(0, .ref (o 33)), (1, .int x1), (2, .int z4), (3, .int y2)]) hX [1, 2, 0, 3] rfl (by decide) rfl dX1_quartersOfWeek_18 ?_
      obtain ⟨z5, hz5⟩ : ∃ z : Int32, z = y2 + 1 := ⟨_, rfl⟩
      have hE := bnd_nm hz5 hE
      refine q_iinc (pc := 19) (lo' := [(0, .ref (o 33)), (1, .int x1), (2, .int z4), (3, .int z5)]) hX 3 z5 [1, 2, 3, 0] rfl (by rw [hz5]; rfl) (by decide) rfl dX1_quartersOfWeek_19 ?_
      refine q_goto (pc := 22) hX 4 (by decide) dX1_quartersOfWeek_22 ?_
      exact ih _ _ p6 hE hx

set_option maxHeartbeats 4000000 in
theorem c_X1_quartersOfWeek {Y : Lx} {o : Nat → Nat} {hn : Nat} {M : Mem} {G : Mel} {x1 : Int32} {rr : Int32} (hE : s_X1_quartersOfWeek M x1 = some (rr)) : MI Y yX1_quartersOfWeek cX1_quartersOfWeek 4 (some .int) 2 47 0 0 [.ref (o 33), .int x1] o hn M G (.inl (some (.int rr))) M G := by
  refine MI.of (by decide +kernel) (Nat.le_of_ble_eq_true rfl) (fun X hY hX hE0 hR => ?_)
  change CxOK X RX1 cX1_quartersOfWeek 4 2 47 0 0 (some .int) at hX
  show WM X o hn M G 0 0 0 4 [(0, .ref (o 33)), (1, .int x1)] []
  unfold s_X1_quartersOfWeek at hE
  refine q_iconst (pc := 0) hX (0) rfl dX1_quartersOfWeek_0 ?_
  refine q_istore_n (pc := 1) (lo' := [(0, .ref (o 33)), (1, .int x1), (2, .int 0)]) hX [1, 2, 0] rfl (by decide) rfl dX1_quartersOfWeek_1 ?_
  refine q_iconst (pc := 2) hX (0) rfl dX1_quartersOfWeek_2 ?_
  refine q_istore_n (pc := 3) (lo' := [(0, .ref (o 33)), (1, .int x1), (2, .int 0), (3, .int 0)]) hX [1, 2, 3, 0] rfl (by decide) rfl dX1_quartersOfWeek_3 ?_
  obtain ⟨p6, hp6, hE⟩ := ob_bind hE
  refine l_X1_quartersOfWeek_4 hX hE0 FU _ _ p6 hp6 ?_
  refine q_iload_n (pc := 25) hX 2 rfl rfl dX1_quartersOfWeek_25 ?_
  refine q_bipush (pc := 26) hX (7) (by decide) dX1_quartersOfWeek_26 ?_
  refine q_iadd (pc := 28) hX dX1_quartersOfWeek_28 ?_
  refine q_bipush (pc := 29) hX (15) (by decide) dX1_quartersOfWeek_29 ?_
  refine q_idiv (pc := 31) hX (by decide) dX1_quartersOfWeek_31 ?_
  cases hE
  exact q_iret hX hR (by decide) (by decide) dX1_quartersOfWeek_32

set_option maxHeartbeats 4000000 in
theorem l_X1_quartersOf_20 {X : Cx} (hX : CxOK X RX1 cX1_quartersOf 9 3 70 0 0 (some .int)) (hE0 : CxE X []) {o : Nat → Nat} {hn : Nat} {M : Mem} {x1 : Int32} {x2 : Int32} {G : Mel} {r1 : Int32} : ∀ (f : Nat) (y3 : Int32) (y4 : Int32) (y5 : Int32) (p14 : Int32 × Int32 × Int32), L_X1_quartersOf_20 M x1 x2 r1 f y3 y4 y5 = some p14 → WM X o hn M G 0 0 83 9 [(0, .ref (o 33)), (1, .int x1), (2, .int x2), (3, .int r1), (4, .int p14.1), (5, .int p14.2.1), (6, .int p14.2.2)] [] → WM X o hn M G 0 0 20 9 [(0, .ref (o 33)), (1, .int x1), (2, .int x2), (3, .int r1), (4, .int y3), (5, .int y4), (6, .int y5)] [] := by
  intro f
  induction f with
  | zero => intro y3 y4 y5 p14 hE; simp [L_X1_quartersOf_20] at hE
  | succ f ih =>
    intro y3 y4 y5 p14 hE hx
    rw [L_X1_quartersOf_20] at hE
    refine q_iload (pc := 20) hX 6 rfl dX1_quartersOf_20 ?_
    refine q_bipush (pc := 22) hX (7) (by decide) dX1_quartersOf_22 ?_
    refine q_icmp_ge (pc := 24) hX 83 (by decide) dX1_quartersOf_24 (fun c => ?_) (fun c => ?_)
    · rw [if_pos c] at hE
      cases hE
      exact hx
    · rw [if_neg c] at hE
      refine q_aload_n (pc := 27) hX 0 rfl rfl dX1_quartersOf_27 ?_
      refine q_iload (pc := 28) hX 6 rfl dX1_quartersOf_28 ?_
      refine q_iload_n (pc := 30) hX 2 rfl rfl dX1_quartersOf_30 ?_
      obtain ⟨r6, hr6, hE⟩ := ob_bind hE
      refine q_callV (pc := 31) (id := 33) (As := [.int y5, .int x2]) (rest := []) (rv := some (.int r6)) (st' := [.int r6]) hX (c_X1_minutesOf hr6) (vl_X1_90) (lt46 (by decide)) rfl rfl rfl pd_yX1_minutesOf rfl ⟨by decide, by decide⟩ ⟨Nat.le_of_ble_eq_true rfl, Nat.le_of_ble_eq_true rfl⟩ rfl (Nat.le_of_ble_eq_true rfl) rfl dX1_quartersOf_31 ?_
      refine q_istore (pc := 34) (lo' := [(0, .ref (o 33)), (1, .int x1), (2, .int x2), (3, .int r1), (4, .int y3), (5, .int y4), (6, .int y5), (7, .int r6)]) hX [1, 2, 3, 4, 5, 6, 7, 0] (by decide) rfl dX1_quartersOf_34 ?_
      refine q_iload (pc := 36) hX 7 rfl dX1_quartersOf_36 ?_
      refine q_bipush (pc := 38) hX (15) (by decide) dX1_quartersOf_38 ?_
      refine q_irem (pc := 40) hX (by decide) dX1_quartersOf_40 ?_
      refine q_iload_n (pc := 41) hX 3 rfl rfl dX1_quartersOf_41 ?_
      refine q_bipush (pc := 42) hX (15) (by decide) dX1_quartersOf_42 ?_
      refine q_irem (pc := 44) hX (by decide) dX1_quartersOf_44 ?_
      refine q_isub (pc := 45) hX dX1_quartersOf_45 ?_
      refine q_nm (fun z7 hz7 => ?_)
      have hE := bnd_nm hz7 hE
      refine q_istore (pc := 46) (lo' := [(0, .ref (o 33)), (1, .int x1), (2, .int x2), (3, .int r1), (4, .int y3), (5, .int y4), (6, .int y5), (7, .int r6), (8, .int z7)]) hX [1, 2, 3, 4, 5, 6, 7, 8, 0] (by decide) rfl dX1_quartersOf_46 ?_
      refine q_iload (pc := 48) hX 4 rfl dX1_quartersOf_48 ?_
      refine q_iload (pc := 50) hX 7 rfl dX1_quartersOf_50 ?_
      refine q_bipush (pc := 52) hX (15) (by decide) dX1_quartersOf_52 ?_
      refine q_idiv (pc := 54) hX (by decide) dX1_quartersOf_54 ?_
      refine q_isub (pc := 55) hX dX1_quartersOf_55 ?_
      refine q_nm (fun z8 hz8 => ?_)
      have hE := bnd_nm hz8 hE
      refine q_istore (pc := 56) (lo' := [(0, .ref (o 33)), (1, .int x1), (2, .int x2), (3, .int r1), (4, .int z8), (5, .int y4), (6, .int y5), (7, .int r6), (8, .int z7)]) hX [1, 2, 3, 4, 0, 5, 6, 7, 8] (by decide) rfl dX1_quartersOf_56 ?_
      refine q_iload (pc := 58) hX 8 rfl dX1_quartersOf_58 ?_
      obtain ⟨p12, hp12, hE⟩ := bnd_ob hE
      suffices Jp12 : WM X o hn M G 0 0 77 9 [(0, .ref (o 33)), (1, .int x1), (2, .int x2), (3, .int r1), (4, .int z8), (5, .int p12), (6, .int y5)] [] by
        refine q_if_gt (pc := 60) hX 74 (by decide) dX1_quartersOf_60 (fun c => ?_) (fun c => ?_)
        · rw [if_pos c] at hp12
          obtain ⟨z10, hz10⟩ : ∃ z : Int32, z = y4 + 1 := ⟨_, rfl⟩
          have hp12 := bnd_nm hz10 hp12
          refine q_iinc (pc := 74) (lo' := [(0, .ref (o 33)), (1, .int x1), (2, .int x2), (3, .int r1), (4, .int z8), (5, .int z10), (6, .int y5), (7, .int r6), (8, .int z7)]) hX 5 z10 [1, 2, 3, 4, 5, 0, 6, 7, 8] rfl (by rw [hz10]; rfl) (by decide) rfl dX1_quartersOf_74 ?_
          refine q_lo [0, 1, 2, 3, 4, 5, 6] rfl ?_
          cases hp12
          exact Jp12
        · rw [if_neg c] at hp12
          refine q_iload (pc := 63) hX 8 rfl dX1_quartersOf_63 ?_
          refine q_if_ne (pc := 65) hX 77 (by decide) dX1_quartersOf_65 (fun c => ?_) (fun c => ?_)
          · rw [if_neg c] at hp12
            refine q_lo [0, 1, 2, 3, 4, 5, 6] rfl ?_
            cases hp12
            exact Jp12
          · rw [if_pos c] at hp12
            refine q_iload (pc := 68) hX 6 rfl dX1_quartersOf_68 ?_
            refine q_iload_n (pc := 70) hX 1 rfl rfl dX1_quartersOf_70 ?_
            refine q_icmp_ge (pc := 71) hX 77 (by decide) dX1_quartersOf_71 (fun c => ?_) (fun c => ?_)
            · rw [if_pos c] at hp12
              refine q_lo [0, 1, 2, 3, 4, 5, 6] rfl ?_
              cases hp12
              exact Jp12
            · rw [if_neg c] at hp12
              obtain ⟨z11, hz11⟩ : ∃ z : Int32, z = y4 + 1 := ⟨_, rfl⟩
              have hp12 := bnd_nm hz11 hp12
              refine q_iinc (pc := 74) (lo' := [(0, .ref (o 33)), (1, .int x1), (2, .int x2), (3, .int r1), (4, .int z8), (5, .int z11), (6, .int y5), (7, .int r6), (8, .int z7)]) hX 5 z11 [1, 2, 3, 4, 5, 0, 6, 7, 8] rfl (by rw [hz11]; rfl) (by decide) rfl dX1_quartersOf_74 ?_
              refine q_lo [0, 1, 2, 3, 4, 5, 6] rfl ?_
              cases hp12
              exact Jp12
      obtain ⟨z13, hz13⟩ : ∃ z : Int32, z = y5 + 1 := ⟨_, rfl⟩
      have hE := bnd_nm hz13 hE
      refine q_iinc (pc := 77) (lo' := [(0, .ref (o 33)), (1, .int x1), (2, .int x2), (3, .int r1), (4, .int z8), (5, .int p12), (6, .int z13)]) hX 6 z13 [1, 2, 3, 4, 5, 6, 0] rfl (by rw [hz13]; rfl) (by decide) rfl dX1_quartersOf_77 ?_
      refine q_goto (pc := 80) hX 20 (by decide) dX1_quartersOf_80 ?_
      exact ih _ _ _ p14 hE hx

set_option maxHeartbeats 4000000 in
theorem c_X1_quartersOf {Y : Lx} {o : Nat → Nat} {hn : Nat} {M : Mem} {G : Mel} {x1 : Int32} {x2 : Int32} {rr : Int32} (hE : s_X1_quartersOf M x1 x2 = some (rr)) : MI Y yX1_quartersOf cX1_quartersOf 9 (some .int) 3 70 0 0 [.ref (o 33), .int x1, .int x2] o hn M G (.inl (some (.int rr))) M G := by
  refine MI.of (by decide +kernel) (Nat.le_of_ble_eq_true rfl) (fun X hY hX hE0 hR => ?_)
  change CxOK X RX1 cX1_quartersOf 9 3 70 0 0 (some .int) at hX
  show WM X o hn M G 0 0 0 9 [(0, .ref (o 33)), (1, .int x1), (2, .int x2)] []
  unfold s_X1_quartersOf at hE
  refine q_aload_n (pc := 0) hX 0 rfl rfl dX1_quartersOf_0 ?_
  refine q_iload_n (pc := 1) hX 1 rfl rfl dX1_quartersOf_1 ?_
  refine q_iload_n (pc := 2) hX 2 rfl rfl dX1_quartersOf_2 ?_
  obtain ⟨r1, hr1, hE⟩ := ob_bind hE
  refine q_callV (pc := 3) (id := 33) (As := [.int x1, .int x2]) (rest := []) (rv := some (.int r1)) (st' := [.int r1]) hX (c_X1_minutesOf hr1) (vl_X1_90) (lt46 (by decide)) rfl rfl rfl pd_yX1_minutesOf rfl ⟨by decide, by decide⟩ ⟨Nat.le_of_ble_eq_true rfl, Nat.le_of_ble_eq_true rfl⟩ rfl (Nat.le_of_ble_eq_true rfl) rfl dX1_quartersOf_3 ?_
  refine q_istore_n (pc := 6) (lo' := [(0, .ref (o 33)), (1, .int x1), (2, .int x2), (3, .int r1)]) hX [1, 2, 3, 0] rfl (by decide) rfl dX1_quartersOf_6 ?_
  refine q_aload_n (pc := 7) hX 0 rfl rfl dX1_quartersOf_7 ?_
  refine q_iload_n (pc := 8) hX 2 rfl rfl dX1_quartersOf_8 ?_
  obtain ⟨r2, hr2, hE⟩ := ob_bind hE
  refine q_callV (pc := 9) (id := 33) (As := [.int x2]) (rest := []) (rv := some (.int r2)) (st' := [.int r2]) hX (c_X1_quartersOfWeek hr2) (vl_X1_93) (lt46 (by decide)) rfl rfl rfl pd_yX1_quartersOfWeek rfl ⟨by decide, by decide⟩ ⟨Nat.le_of_ble_eq_true rfl, Nat.le_of_ble_eq_true rfl⟩ rfl (Nat.le_of_ble_eq_true rfl) rfl dX1_quartersOf_9 ?_
  refine q_istore (pc := 12) (lo' := [(0, .ref (o 33)), (1, .int x1), (2, .int x2), (3, .int r1), (4, .int r2)]) hX [1, 2, 3, 4, 0] (by decide) rfl dX1_quartersOf_12 ?_
  refine q_iconst (pc := 14) hX (0) rfl dX1_quartersOf_14 ?_
  refine q_istore (pc := 15) (lo' := [(0, .ref (o 33)), (1, .int x1), (2, .int x2), (3, .int r1), (4, .int r2), (5, .int 0)]) hX [1, 2, 3, 4, 5, 0] (by decide) rfl dX1_quartersOf_15 ?_
  refine q_iconst (pc := 17) hX (0) rfl dX1_quartersOf_17 ?_
  refine q_istore (pc := 18) (lo' := [(0, .ref (o 33)), (1, .int x1), (2, .int x2), (3, .int r1), (4, .int r2), (5, .int 0), (6, .int 0)]) hX [1, 2, 3, 4, 5, 6, 0] (by decide) rfl dX1_quartersOf_18 ?_
  obtain ⟨p14, hp14, hE⟩ := ob_bind hE
  refine l_X1_quartersOf_20 hX hE0 FU _ _ _ p14 hp14 ?_
  refine q_iload_n (pc := 83) hX 3 rfl rfl dX1_quartersOf_83 ?_
  refine q_bipush (pc := 84) hX (15) (by decide) dX1_quartersOf_84 ?_
  refine q_idiv (pc := 86) hX (by decide) dX1_quartersOf_86 ?_
  refine q_iload (pc := 87) hX 5 rfl dX1_quartersOf_87 ?_
  refine q_iload (pc := 89) hX 4 rfl dX1_quartersOf_89 ?_
  obtain ⟨p16, hp16, hE⟩ := bnd_ob hE
  suffices Jp16 : WM X o hn M G 0 0 99 9 [] [.int p16, .int (r1 / 15)] by
    refine q_icmp_ge (pc := 91) hX 98 (by decide) dX1_quartersOf_91 (fun c => ?_) (fun c => ?_)
    · rw [if_pos c] at hp16
      refine q_iconst (pc := 98) hX (0) rfl dX1_quartersOf_98 ?_
      refine q_lo [] rfl ?_
      cases hp16
      exact Jp16
    · rw [if_neg c] at hp16
      refine q_iconst (pc := 94) hX (1) rfl dX1_quartersOf_94 ?_
      refine q_goto (pc := 95) hX 99 (by decide) dX1_quartersOf_95 ?_
      refine q_lo [] rfl ?_
      cases hp16
      exact Jp16
  refine q_iadd (pc := 99) hX dX1_quartersOf_99 ?_
  cases hE
  exact q_iret hX hR (by decide) (by decide) dX1_quartersOf_100

set_option maxHeartbeats 4000000 in
theorem c_X1_basicPay {Y : Lx} {o : Nat → Nat} {hn : Nat} {M : Mem} {G : Mel} {x1 : Int32} {rr : Int32} (hE : s_X1_basicPay M x1 = some (rr)) : MI Y yX1_basicPay cX1_basicPay 3 (some .int) 3 70 0 0 [.ref (o 33), .int x1] o hn M G (.inl (some (.int rr))) M G := by
  refine MI.of (by decide +kernel) (Nat.le_of_ble_eq_true rfl) (fun X hY hX hE0 hR => ?_)
  change CxOK X RX1 cX1_basicPay 3 3 70 0 0 (some .int) at hX
  show WM X o hn M G 0 0 0 3 [(0, .ref (o 33)), (1, .int x1)] []
  unfold s_X1_basicPay at hE
  refine q_iconst (pc := 0) hX (2) rfl dX1_basicPay_0 ?_
  refine q_aload_n (pc := 1) hX 0 rfl rfl dX1_basicPay_1 ?_
  refine q_iconst (pc := 2) hX (0) rfl dX1_basicPay_2 ?_
  obtain ⟨r1, hr1, hE⟩ := ob_bind hE
  refine q_callV (pc := 3) (id := 33) (As := [.int 0]) (rest := [.int 2]) (rv := some (.int r1)) (st' := [.int r1, .int 2]) hX (c_X1_quartersOfWeek hr1) (vl_X1_93) (lt46 (by decide)) rfl rfl rfl pd_yX1_quartersOfWeek rfl ⟨by decide, by decide⟩ ⟨Nat.le_of_ble_eq_true rfl, Nat.le_of_ble_eq_true rfl⟩ rfl (Nat.le_of_ble_eq_true rfl) rfl dX1_basicPay_3 ?_
  refine q_imul (pc := 6) hX dX1_basicPay_6 ?_
  refine q_iconst (pc := 7) hX (3) rfl dX1_basicPay_7 ?_
  refine q_aload_n (pc := 8) hX 0 rfl rfl dX1_basicPay_8 ?_
  refine q_iconst (pc := 9) hX (1) rfl dX1_basicPay_9 ?_
  obtain ⟨r2, hr2, hE⟩ := ob_bind hE
  refine q_callV (pc := 10) (id := 33) (As := [.int 1]) (rest := [.int 3, .int (2 * r1)]) (rv := some (.int r2)) (st' := [.int r2, .int 3, .int (2 * r1)]) hX (c_X1_quartersOfWeek hr2) (vl_X1_93) (lt46 (by decide)) rfl rfl rfl pd_yX1_quartersOfWeek rfl ⟨by decide, by decide⟩ ⟨Nat.le_of_ble_eq_true rfl, Nat.le_of_ble_eq_true rfl⟩ rfl (Nat.le_of_ble_eq_true rfl) rfl dX1_basicPay_10 ?_
  refine q_imul (pc := 13) hX dX1_basicPay_13 ?_
  refine q_iadd (pc := 14) hX dX1_basicPay_14 ?_
  refine q_iconst (pc := 15) hX (4) rfl dX1_basicPay_15 ?_
  refine q_aload_n (pc := 16) hX 0 rfl rfl dX1_basicPay_16 ?_
  refine q_iconst (pc := 17) hX (2) rfl dX1_basicPay_17 ?_
  obtain ⟨r3, hr3, hE⟩ := ob_bind hE
  refine q_callV (pc := 18) (id := 33) (As := [.int 2]) (rest := [.int 4, .int ((2 * r1) + (3 * r2))]) (rv := some (.int r3)) (st' := [.int r3, .int 4, .int ((2 * r1) + (3 * r2))]) hX (c_X1_quartersOfWeek hr3) (vl_X1_93) (lt46 (by decide)) rfl rfl rfl pd_yX1_quartersOfWeek rfl ⟨by decide, by decide⟩ ⟨Nat.le_of_ble_eq_true rfl, Nat.le_of_ble_eq_true rfl⟩ rfl (Nat.le_of_ble_eq_true rfl) rfl dX1_basicPay_18 ?_
  refine q_imul (pc := 21) hX dX1_basicPay_21 ?_
  refine q_iadd (pc := 22) hX dX1_basicPay_22 ?_
  refine q_nm (fun z4 hz4 => ?_)
  have hE := bnd_nm hz4 hE
  refine q_istore_n (pc := 23) (lo' := [(0, .ref (o 33)), (1, .int x1), (2, .int z4)]) hX [1, 2, 0] rfl (by decide) rfl dX1_basicPay_23 ?_
  refine q_iload_n (pc := 24) hX 1 rfl rfl dX1_basicPay_24 ?_
  refine q_iload_n (pc := 25) hX 2 rfl rfl dX1_basicPay_25 ?_
  refine q_imul (pc := 26) hX dX1_basicPay_26 ?_
  refine q_iconst (pc := 27) hX (4) rfl dX1_basicPay_27 ?_
  refine q_iadd (pc := 28) hX dX1_basicPay_28 ?_
  refine q_bipush (pc := 29) hX (8) (by decide) dX1_basicPay_29 ?_
  refine q_idiv (pc := 31) hX (by decide) dX1_basicPay_31 ?_
  cases hE
  exact q_iret hX hR (by decide) (by decide) dX1_basicPay_32

set_option maxHeartbeats 4000000 in
theorem c_X2_add {Y : Lx} {o : Nat → Nat} {hn : Nat} {M : Mem} {G : Mel} {x1 : Int32} {x2 : Int32} {x3 : Int32} {x4 : Int32} {rr : Int32} {Mr : Mem} (hE : s_X2_add M x1 x2 x3 x4 = some (rr, Mr)) : MI Y yX2_add cX2_add 6 (some .int) 1 24 0 0 [.ref (o 30), .int x1, .int x2, .int x3, .int x4] o hn M G (.inl (some (.int rr))) Mr G := by
  refine MI.of (by decide +kernel) (Nat.le_of_ble_eq_true rfl) (fun X hY hX hE0 hR => ?_)
  change CxOK X RX2 cX2_add 6 1 24 0 0 (some .int) at hX
  show WM X o hn M G 0 0 0 6 [(0, .ref (o 30)), (1, .int x1), (2, .int x2), (3, .int x3), (4, .int x4)] []
  unfold s_X2_add at hE
  refine q_aload_n (pc := 0) hX 0 rfl rfl dX2_add_0 ?_
  refine q_get (pc := 1) (id := 30) (ci := 2) (N := 1) (T := TX2) (C := RX2) hX 0 (lt46 (by decide)) rfl rfl in_X2 (by decide) (Or.inl kw_30) rfl dX2_add_1 ?_
  obtain ⟨r1, hr1, hE⟩ := ob_bind hE
  refine q_callV (pc := 4) (id := 31) (As := []) (rest := []) (rv := some (.int r1)) (st' := [.int r1]) hX (c_X4_size (tb_31 hn) hr1) (vl_X2_20) (lt46 (by decide)) (ob_T (tb_31 hn).1 _ _) rfl rfl pd_yX4_size rfl ⟨by decide, by decide⟩ ⟨Nat.le_of_ble_eq_true rfl, Nat.le_of_ble_eq_true rfl⟩ rfl (Nat.le_of_ble_eq_true rfl) rfl dX2_add_4 ?_
  refine q_istore (pc := 7) (lo' := [(0, .ref (o 30)), (1, .int x1), (2, .int x2), (3, .int x3), (4, .int x4), (5, .int r1)]) hX [1, 2, 3, 4, 5, 0] (by decide) rfl dX2_add_7 ?_
  refine q_aload_n (pc := 9) hX 0 rfl rfl dX2_add_9 ?_
  refine q_get (pc := 10) (id := 30) (ci := 2) (N := 1) (T := TX2) (C := RX2) hX 0 (lt46 (by decide)) rfl rfl in_X2 (by decide) (Or.inl kw_30) rfl dX2_add_10 ?_
  refine q_iload (pc := 13) hX 5 rfl dX2_add_13 ?_
  obtain ⟨r2, hr2, hE⟩ := ob_bind hE
  refine q_callV (pc := 15) (id := 31) (As := [.int r1]) (rest := []) (rv := none) (st' := []) hX (c_X4_insert (tb_31 hn) hr2) (vl_X2_24) (lt46 (by decide)) (ob_T (tb_31 hn).1 _ _) rfl rfl pd_yX4_insert rfl ⟨by decide, by decide⟩ ⟨Nat.le_of_ble_eq_true rfl, Nat.le_of_ble_eq_true rfl⟩ rfl (Nat.le_of_ble_eq_true rfl) rfl dX2_add_15 ?_
  refine q_aload_n (pc := 18) hX 0 rfl rfl dX2_add_18 ?_
  refine q_get (pc := 19) (id := 30) (ci := 2) (N := 1) (T := TX2) (C := RX2) hX 0 (lt46 (by decide)) rfl rfl in_X2 (by decide) (Or.inl kw_30) rfl dX2_add_19 ?_
  refine q_iload (pc := 22) hX 5 rfl dX2_add_22 ?_
  refine q_iconst (pc := 24) hX (0) rfl dX2_add_24 ?_
  refine q_iload_n (pc := 25) hX 1 rfl rfl dX2_add_25 ?_
  obtain ⟨r3, hr3, hE⟩ := ob_bind hE
  refine q_callV (pc := 26) (id := 31) (As := [.int r1, .int 0, .int x1]) (rest := []) (rv := none) (st' := []) hX (c_X4_set (tb_31 hn) hr3) (vl_X2_28) (lt46 (by decide)) (ob_T (tb_31 hn).1 _ _) rfl rfl pd_yX4_set rfl ⟨by decide, by decide⟩ ⟨Nat.le_of_ble_eq_true rfl, Nat.le_of_ble_eq_true rfl⟩ rfl (Nat.le_of_ble_eq_true rfl) rfl dX2_add_26 ?_
  refine q_aload_n (pc := 29) hX 0 rfl rfl dX2_add_29 ?_
  refine q_get (pc := 30) (id := 30) (ci := 2) (N := 1) (T := TX2) (C := RX2) hX 0 (lt46 (by decide)) rfl rfl in_X2 (by decide) (Or.inl kw_30) rfl dX2_add_30 ?_
  refine q_iload (pc := 33) hX 5 rfl dX2_add_33 ?_
  refine q_iconst (pc := 35) hX (1) rfl dX2_add_35 ?_
  refine q_iload_n (pc := 36) hX 2 rfl rfl dX2_add_36 ?_
  obtain ⟨r4, hr4, hE⟩ := ob_bind hE
  refine q_callV (pc := 37) (id := 31) (As := [.int r1, .int 1, .int x2]) (rest := []) (rv := none) (st' := []) hX (c_X4_set (tb_31 hn) hr4) (vl_X2_28) (lt46 (by decide)) (ob_T (tb_31 hn).1 _ _) rfl rfl pd_yX4_set rfl ⟨by decide, by decide⟩ ⟨Nat.le_of_ble_eq_true rfl, Nat.le_of_ble_eq_true rfl⟩ rfl (Nat.le_of_ble_eq_true rfl) rfl dX2_add_37 ?_
  refine q_aload_n (pc := 40) hX 0 rfl rfl dX2_add_40 ?_
  refine q_get (pc := 41) (id := 30) (ci := 2) (N := 1) (T := TX2) (C := RX2) hX 0 (lt46 (by decide)) rfl rfl in_X2 (by decide) (Or.inl kw_30) rfl dX2_add_41 ?_
  refine q_iload (pc := 44) hX 5 rfl dX2_add_44 ?_
  refine q_iconst (pc := 46) hX (2) rfl dX2_add_46 ?_
  refine q_iload_n (pc := 47) hX 3 rfl rfl dX2_add_47 ?_
  obtain ⟨r5, hr5, hE⟩ := ob_bind hE
  refine q_callV (pc := 48) (id := 31) (As := [.int r1, .int 2, .int x3]) (rest := []) (rv := none) (st' := []) hX (c_X4_set (tb_31 hn) hr5) (vl_X2_28) (lt46 (by decide)) (ob_T (tb_31 hn).1 _ _) rfl rfl pd_yX4_set rfl ⟨by decide, by decide⟩ ⟨Nat.le_of_ble_eq_true rfl, Nat.le_of_ble_eq_true rfl⟩ rfl (Nat.le_of_ble_eq_true rfl) rfl dX2_add_48 ?_
  refine q_aload_n (pc := 51) hX 0 rfl rfl dX2_add_51 ?_
  refine q_get (pc := 52) (id := 30) (ci := 2) (N := 1) (T := TX2) (C := RX2) hX 0 (lt46 (by decide)) rfl rfl in_X2 (by decide) (Or.inl kw_30) rfl dX2_add_52 ?_
  refine q_iload (pc := 55) hX 5 rfl dX2_add_55 ?_
  refine q_iconst (pc := 57) hX (3) rfl dX2_add_57 ?_
  refine q_iload (pc := 58) hX 4 rfl dX2_add_58 ?_
  obtain ⟨r6, hr6, hE⟩ := ob_bind hE
  refine q_callV (pc := 60) (id := 31) (As := [.int r1, .int 3, .int x4]) (rest := []) (rv := none) (st' := []) hX (c_X4_set (tb_31 hn) hr6) (vl_X2_28) (lt46 (by decide)) (ob_T (tb_31 hn).1 _ _) rfl rfl pd_yX4_set rfl ⟨by decide, by decide⟩ ⟨Nat.le_of_ble_eq_true rfl, Nat.le_of_ble_eq_true rfl⟩ rfl (Nat.le_of_ble_eq_true rfl) rfl dX2_add_60 ?_
  refine q_iload (pc := 63) hX 5 rfl dX2_add_63 ?_
  cases hE
  exact q_iret hX hR (by decide) (by decide) dX2_add_65

set_option maxHeartbeats 4000000 in
theorem l_X2_nextChange_6 {X : Cx} (hX : CxOK X RX2 cX2_nextChange 6 1 24 0 0 (some .int)) (hE0 : CxE X []) {o : Nat → Nat} {hn : Nat} {M : Mem} {x1 : Int32} {G : Mel} : ∀ (f : Nat) (y1 : Int32) (y2 : Int32) (p11 : Int32 × Int32), L_X2_nextChange_6 M x1 f y1 y2 = some p11 → WM X o hn M G 0 0 79 6 [(0, .ref (o 30)), (1, .int x1), (2, .int p11.1), (3, .int p11.2)] [] → WM X o hn M G 0 0 6 6 [(0, .ref (o 30)), (1, .int x1), (2, .int y1), (3, .int y2)] [] := by
  intro f
  induction f with
  | zero => intro y1 y2 p11 hE; simp [L_X2_nextChange_6] at hE
  | succ f ih =>
    intro y1 y2 p11 hE hx
    rw [L_X2_nextChange_6] at hE
    refine q_iload_n (pc := 6) hX 3 rfl rfl dX2_nextChange_6 ?_
    refine q_aload_n (pc := 7) hX 0 rfl rfl dX2_nextChange_7 ?_
    refine q_get (pc := 8) (id := 30) (ci := 2) (N := 1) (T := TX2) (C := RX2) hX 0 (lt46 (by decide)) rfl rfl in_X2 (by decide) (Or.inl kw_30) rfl dX2_nextChange_8 ?_
    obtain ⟨r3, hr3, hE⟩ := ob_bind hE
    refine q_callV (pc := 11) (id := 31) (As := []) (rest := [.int y2]) (rv := some (.int r3)) (st' := [.int r3, .int y2]) hX (c_X4_size (tb_31 hn) hr3) (vl_X2_20) (lt46 (by decide)) (ob_T (tb_31 hn).1 _ _) rfl rfl pd_yX4_size rfl ⟨by decide, by decide⟩ ⟨Nat.le_of_ble_eq_true rfl, Nat.le_of_ble_eq_true rfl⟩ rfl (Nat.le_of_ble_eq_true rfl) rfl dX2_nextChange_11 ?_
    refine q_icmp_ge (pc := 14) hX 79 (by decide) dX2_nextChange_14 (fun c => ?_) (fun c => ?_)
    · rw [if_pos c] at hE
      cases hE
      exact hx
    · rw [if_neg c] at hE
      refine q_aload_n (pc := 17) hX 0 rfl rfl dX2_nextChange_17 ?_
      refine q_get (pc := 18) (id := 30) (ci := 2) (N := 1) (T := TX2) (C := RX2) hX 0 (lt46 (by decide)) rfl rfl in_X2 (by decide) (Or.inl kw_30) rfl dX2_nextChange_18 ?_
      refine q_iload_n (pc := 21) hX 3 rfl rfl dX2_nextChange_21 ?_
      refine q_iconst (pc := 22) hX (1) rfl dX2_nextChange_22 ?_
      obtain ⟨r4, hr4, hE⟩ := ob_bind hE
      refine q_callV (pc := 23) (id := 31) (As := [.int y2, .int 1]) (rest := []) (rv := some (.int r4)) (st' := [.int r4]) hX (c_X4_get (tb_31 hn) hr4) (vl_X2_32) (lt46 (by decide)) (ob_T (tb_31 hn).1 _ _) rfl rfl pd_yX4_get rfl ⟨by decide, by decide⟩ ⟨Nat.le_of_ble_eq_true rfl, Nat.le_of_ble_eq_true rfl⟩ rfl (Nat.le_of_ble_eq_true rfl) rfl dX2_nextChange_23 ?_
      refine q_istore (pc := 26) (lo' := [(0, .ref (o 30)), (1, .int x1), (2, .int y1), (3, .int y2), (4, .int r4)]) hX [1, 2, 3, 4, 0] (by decide) rfl dX2_nextChange_26 ?_
      refine q_aload_n (pc := 28) hX 0 rfl rfl dX2_nextChange_28 ?_
      refine q_get (pc := 29) (id := 30) (ci := 2) (N := 1) (T := TX2) (C := RX2) hX 0 (lt46 (by decide)) rfl rfl in_X2 (by decide) (Or.inl kw_30) rfl dX2_nextChange_29 ?_
      refine q_iload_n (pc := 32) hX 3 rfl rfl dX2_nextChange_32 ?_
      refine q_iconst (pc := 33) hX (2) rfl dX2_nextChange_33 ?_
      obtain ⟨r5, hr5, hE⟩ := ob_bind hE
      refine q_callV (pc := 34) (id := 31) (As := [.int y2, .int 2]) (rest := []) (rv := some (.int r5)) (st' := [.int r5]) hX (c_X4_get (tb_31 hn) hr5) (vl_X2_32) (lt46 (by decide)) (ob_T (tb_31 hn).1 _ _) rfl rfl pd_yX4_get rfl ⟨by decide, by decide⟩ ⟨Nat.le_of_ble_eq_true rfl, Nat.le_of_ble_eq_true rfl⟩ rfl (Nat.le_of_ble_eq_true rfl) rfl dX2_nextChange_34 ?_
      refine q_istore (pc := 37) (lo' := [(0, .ref (o 30)), (1, .int x1), (2, .int y1), (3, .int y2), (4, .int r4), (5, .int r5)]) hX [1, 2, 3, 4, 5, 0] (by decide) rfl dX2_nextChange_37 ?_
      refine q_iload (pc := 39) hX 4 rfl dX2_nextChange_39 ?_
      refine q_iload_n (pc := 41) hX 1 rfl rfl dX2_nextChange_41 ?_
      obtain ⟨p7, hp7, hE⟩ := bnd_ob hE
      suffices Jp7 : WM X o hn M G 0 0 55 6 [(0, .ref (o 30)), (1, .int x1), (3, .int y2), (5, .int r5)] [.int p7] by
        refine q_icmp_le (pc := 42) hX 54 (by decide) dX2_nextChange_42 (fun c => ?_) (fun c => ?_)
        · rw [if_pos c] at hp7
          refine q_iload_n (pc := 54) hX 2 rfl rfl dX2_nextChange_54 ?_
          refine q_lo [0, 1, 3, 5] rfl ?_
          cases hp7
          exact Jp7
        · rw [if_neg c] at hp7
          refine q_iload_n (pc := 45) hX 2 rfl rfl dX2_nextChange_45 ?_
          refine q_iload (pc := 46) hX 4 rfl dX2_nextChange_46 ?_
          refine r_min (pc := 48) hX kw_291 kw_191 kw_192 kw_193 (by decide) (Nat.le_of_ble_eq_true rfl) (Nat.le_of_ble_eq_true rfl) (Nat.le_of_ble_eq_true rfl) dX2_nextChange_48 ?_
          refine q_goto (pc := 51) hX 55 (by decide) dX2_nextChange_51 ?_
          refine q_lo [0, 1, 3, 5] rfl ?_
          cases hp7
          exact Jp7
      refine q_istore_n (pc := 55) (lo' := [(0, .ref (o 30)), (1, .int x1), (2, .int p7), (3, .int y2), (5, .int r5)]) hX [1, 2, 0, 3, 4] rfl (by decide) rfl dX2_nextChange_55 ?_
      refine q_iload (pc := 56) hX 4 rfl dX2_nextChange_56 ?_
      refine q_iload_n (pc := 58) hX 1 rfl rfl dX2_nextChange_58 ?_
      obtain ⟨p9, hp9, hE⟩ := bnd_ob hE
      suffices Jp9 : WM X o hn M G 0 0 72 6 [(0, .ref (o 30)), (1, .int x1), (3, .int y2)] [.int p9] by
        refine q_icmp_le (pc := 59) hX 71 (by decide) dX2_nextChange_59 (fun c => ?_) (fun c => ?_)
        · rw [if_pos c] at hp9
          refine q_iload_n (pc := 71) hX 2 rfl rfl dX2_nextChange_71 ?_
          refine q_lo [0, 1, 3] rfl ?_
          cases hp9
          exact Jp9
        · rw [if_neg c] at hp9
          refine q_iload_n (pc := 62) hX 2 rfl rfl dX2_nextChange_62 ?_
          refine q_iload (pc := 63) hX 4 rfl dX2_nextChange_63 ?_
          refine r_min (pc := 65) hX kw_291 kw_191 kw_192 kw_193 (by decide) (Nat.le_of_ble_eq_true rfl) (Nat.le_of_ble_eq_true rfl) (Nat.le_of_ble_eq_true rfl) dX2_nextChange_65 ?_
          refine q_goto (pc := 68) hX 72 (by decide) dX2_nextChange_68 ?_
          refine q_lo [0, 1, 3] rfl ?_
          cases hp9
          exact Jp9
      refine q_istore_n (pc := 72) (lo' := [(0, .ref (o 30)), (1, .int x1), (2, .int p9), (3, .int y2)]) hX [1, 2, 0, 3] rfl (by decide) rfl dX2_nextChange_72 ?_
      obtain ⟨z10, hz10⟩ : ∃ z : Int32, z = y2 + 1 := ⟨_, rfl⟩
      have hE := bnd_nm hz10 hE
      refine q_iinc (pc := 73) (lo' := [(0, .ref (o 30)), (1, .int x1), (2, .int p9), (3, .int z10)]) hX 3 z10 [1, 2, 3, 0] rfl (by rw [hz10]; rfl) (by decide) rfl dX2_nextChange_73 ?_
      refine q_goto (pc := 76) hX 6 (by decide) dX2_nextChange_76 ?_
      exact ih _ _ p11 hE hx

set_option maxHeartbeats 4000000 in
theorem c_X2_nextChange {Y : Lx} {o : Nat → Nat} {hn : Nat} {M : Mem} {G : Mel} {x1 : Int32} {rr : Int32} (hE : s_X2_nextChange M x1 = some (rr)) : MI Y yX2_nextChange cX2_nextChange 6 (some .int) 1 24 0 0 [.ref (o 30), .int x1] o hn M G (.inl (some (.int rr))) M G := by
  refine MI.of (by decide +kernel) (Nat.le_of_ble_eq_true rfl) (fun X hY hX hE0 hR => ?_)
  change CxOK X RX2 cX2_nextChange 6 1 24 0 0 (some .int) at hX
  show WM X o hn M G 0 0 0 6 [(0, .ref (o 30)), (1, .int x1)] []
  unfold s_X2_nextChange at hE
  refine q_sipush (pc := 0) hX (1440) (by decide) dX2_nextChange_0 ?_
  refine q_istore_n (pc := 3) (lo' := [(0, .ref (o 30)), (1, .int x1), (2, .int 1440)]) hX [1, 2, 0] rfl (by decide) rfl dX2_nextChange_3 ?_
  refine q_iconst (pc := 4) hX (0) rfl dX2_nextChange_4 ?_
  refine q_istore_n (pc := 5) (lo' := [(0, .ref (o 30)), (1, .int x1), (2, .int 1440), (3, .int 0)]) hX [1, 2, 3, 0] rfl (by decide) rfl dX2_nextChange_5 ?_
  obtain ⟨p11, hp11, hE⟩ := ob_bind hE
  refine l_X2_nextChange_6 hX hE0 FU _ _ p11 hp11 ?_
  refine q_iload_n (pc := 79) hX 2 rfl rfl dX2_nextChange_79 ?_
  cases hE
  exact q_iret hX hR (by decide) (by decide) dX2_nextChange_80

set_option maxHeartbeats 4000000 in
theorem c_X2_isBetween {Y : Lx} {o : Nat → Nat} {hn : Nat} {M : Mem} {G : Mel} {x0 : Int32} {x1 : Int32} {x2 : Int32} {rr : Int32} (hE : s_X2_isBetween x0 x1 x2 = some (rr)) : MI Y yX2_isBetween cX2_isBetween 3 (some .boolean) 0 0 0 0 [.int x0, .int x1, .int x2] o hn M G (.inl (some (.int rr))) M G := by
  refine MI.of (by decide +kernel) (Nat.le_of_ble_eq_true rfl) (fun X hY hX hE0 hR => ?_)
  change CxOK X RX2 cX2_isBetween 3 0 0 0 0 (some .boolean) at hX
  show WM X o hn M G 0 0 0 3 [(0, .int x0), (1, .int x1), (2, .int x2)] []
  unfold s_X2_isBetween at hE
  refine q_iload_n (pc := 0) hX 1 rfl rfl dX2_isBetween_0 ?_
  refine q_iload_n (pc := 1) hX 2 rfl rfl dX2_isBetween_1 ?_
  refine q_icmp_ge (pc := 2) hX 21 (by decide) dX2_isBetween_2 (fun c => ?_) (fun c => ?_)
  · rw [if_pos c] at hE
    refine q_iload_n (pc := 21) hX 1 rfl rfl dX2_isBetween_21 ?_
    refine q_iload_n (pc := 22) hX 2 rfl rfl dX2_isBetween_22 ?_
    refine q_icmp_eq (pc := 23) hX 36 (by decide) dX2_isBetween_23 (fun c => ?_) (fun c => ?_)
    · rw [if_pos c] at hE
      refine q_iconst (pc := 36) hX (1) rfl dX2_isBetween_36 ?_
      refine q_goto (pc := 37) hX 41 (by decide) dX2_isBetween_37 ?_
      cases hE
      exact q_zret hX (Or.inr rfl) hR (by decide) (by decide) dX2_isBetween_41
    · rw [if_neg c] at hE
      refine q_iload_n (pc := 26) hX 0 rfl rfl dX2_isBetween_26 ?_
      refine q_iload_n (pc := 27) hX 1 rfl rfl dX2_isBetween_27 ?_
      refine q_icmp_ge (pc := 28) hX 36 (by decide) dX2_isBetween_28 (fun c => ?_) (fun c => ?_)
      · rw [if_pos c] at hE
        refine q_iconst (pc := 36) hX (1) rfl dX2_isBetween_36 ?_
        refine q_goto (pc := 37) hX 41 (by decide) dX2_isBetween_37 ?_
        cases hE
        exact q_zret hX (Or.inr rfl) hR (by decide) (by decide) dX2_isBetween_41
      · rw [if_neg c] at hE
        refine q_iload_n (pc := 31) hX 0 rfl rfl dX2_isBetween_31 ?_
        refine q_iload_n (pc := 32) hX 2 rfl rfl dX2_isBetween_32 ?_
        refine q_icmp_ge (pc := 33) hX 40 (by decide) dX2_isBetween_33 (fun c => ?_) (fun c => ?_)
        · rw [if_pos c] at hE
          refine q_iconst (pc := 40) hX (0) rfl dX2_isBetween_40 ?_
          cases hE
          exact q_zret hX (Or.inl rfl) hR (by decide) (by decide) dX2_isBetween_41
        · rw [if_neg c] at hE
          refine q_iconst (pc := 36) hX (1) rfl dX2_isBetween_36 ?_
          refine q_goto (pc := 37) hX 41 (by decide) dX2_isBetween_37 ?_
          cases hE
          exact q_zret hX (Or.inr rfl) hR (by decide) (by decide) dX2_isBetween_41
  · rw [if_neg c] at hE
    refine q_iload_n (pc := 5) hX 1 rfl rfl dX2_isBetween_5 ?_
    refine q_iload_n (pc := 6) hX 0 rfl rfl dX2_isBetween_6 ?_
    refine q_icmp_gt (pc := 7) hX 19 (by decide) dX2_isBetween_7 (fun c => ?_) (fun c => ?_)
    · rw [if_pos c] at hE
      refine q_iconst (pc := 19) hX (0) rfl dX2_isBetween_19 ?_
      cases hE
      exact q_zret hX (Or.inl rfl) hR (by decide) (by decide) dX2_isBetween_20
    · rw [if_neg c] at hE
      refine q_iload_n (pc := 10) hX 0 rfl rfl dX2_isBetween_10 ?_
      refine q_iload_n (pc := 11) hX 2 rfl rfl dX2_isBetween_11 ?_
      refine q_icmp_ge (pc := 12) hX 19 (by decide) dX2_isBetween_12 (fun c => ?_) (fun c => ?_)
      · rw [if_pos c] at hE
        refine q_iconst (pc := 19) hX (0) rfl dX2_isBetween_19 ?_
        cases hE
        exact q_zret hX (Or.inl rfl) hR (by decide) (by decide) dX2_isBetween_20
      · rw [if_neg c] at hE
        refine q_iconst (pc := 15) hX (1) rfl dX2_isBetween_15 ?_
        refine q_goto (pc := 16) hX 20 (by decide) dX2_isBetween_16 ?_
        cases hE
        exact q_zret hX (Or.inr rfl) hR (by decide) (by decide) dX2_isBetween_20

set_option maxHeartbeats 4000000 in
theorem l_X2_greatestRate_5 {X : Cx} (hX : CxOK X RX2 cX2_greatestRate 6 1 24 0 0 (some .int)) (hE0 : CxE X []) {o : Nat → Nat} {hn : Nat} {M : Mem} {x1 : Int32} {x2 : Int32} {G : Mel} : ∀ (f : Nat) (y1 : Int32) (y2 : Int32) (p15 : Int32 × Int32), L_X2_greatestRate_5 M x1 x2 f y1 y2 = some p15 → WM X o hn M G 0 0 95 6 [(0, .ref (o 30)), (1, .int x1), (2, .int x2), (3, .int p15.1), (4, .int p15.2)] [] → WM X o hn M G 0 0 5 6 [(0, .ref (o 30)), (1, .int x1), (2, .int x2), (3, .int y1), (4, .int y2)] [] := by
  intro f
  induction f with
  | zero => intro y1 y2 p15 hE; simp [L_X2_greatestRate_5] at hE
  | succ f ih =>
    intro y1 y2 p15 hE hx
    rw [L_X2_greatestRate_5] at hE
    refine q_iload (pc := 5) hX 4 rfl dX2_greatestRate_5 ?_
    refine q_aload_n (pc := 7) hX 0 rfl rfl dX2_greatestRate_7 ?_
    refine q_get (pc := 8) (id := 30) (ci := 2) (N := 1) (T := TX2) (C := RX2) hX 0 (lt46 (by decide)) rfl rfl in_X2 (by decide) (Or.inl kw_30) rfl dX2_greatestRate_8 ?_
    obtain ⟨r3, hr3, hE⟩ := ob_bind hE
    refine q_callV (pc := 11) (id := 31) (As := []) (rest := [.int y2]) (rv := some (.int r3)) (st' := [.int r3, .int y2]) hX (c_X4_size (tb_31 hn) hr3) (vl_X2_20) (lt46 (by decide)) (ob_T (tb_31 hn).1 _ _) rfl rfl pd_yX4_size rfl ⟨by decide, by decide⟩ ⟨Nat.le_of_ble_eq_true rfl, Nat.le_of_ble_eq_true rfl⟩ rfl (Nat.le_of_ble_eq_true rfl) rfl dX2_greatestRate_11 ?_
    refine q_icmp_ge (pc := 14) hX 95 (by decide) dX2_greatestRate_14 (fun c => ?_) (fun c => ?_)
    · rw [if_pos c] at hE
      cases hE
      exact hx
    · rw [if_neg c] at hE
      refine q_aload_n (pc := 17) hX 0 rfl rfl dX2_greatestRate_17 ?_
      refine q_get (pc := 18) (id := 30) (ci := 2) (N := 1) (T := TX2) (C := RX2) hX 0 (lt46 (by decide)) rfl rfl in_X2 (by decide) (Or.inl kw_30) rfl dX2_greatestRate_18 ?_
      refine q_iload (pc := 21) hX 4 rfl dX2_greatestRate_21 ?_
      refine q_iconst (pc := 23) hX (0) rfl dX2_greatestRate_23 ?_
      obtain ⟨r4, hr4, hE⟩ := ob_bind hE
      refine q_callV (pc := 24) (id := 31) (As := [.int y2, .int 0]) (rest := []) (rv := some (.int r4)) (st' := [.int r4]) hX (c_X4_get (tb_31 hn) hr4) (vl_X2_32) (lt46 (by decide)) (ob_T (tb_31 hn).1 _ _) rfl rfl pd_yX4_get rfl ⟨by decide, by decide⟩ ⟨Nat.le_of_ble_eq_true rfl, Nat.le_of_ble_eq_true rfl⟩ rfl (Nat.le_of_ble_eq_true rfl) rfl dX2_greatestRate_24 ?_
      refine q_iload_n (pc := 27) hX 1 rfl rfl dX2_greatestRate_27 ?_
      refine q_ishr (pc := 28) hX dX2_greatestRate_28 ?_
      refine q_iconst (pc := 29) hX (1) rfl dX2_greatestRate_29 ?_
      refine q_iand (pc := 30) hX dX2_greatestRate_30 ?_
      refine q_iconst (pc := 31) hX (1) rfl dX2_greatestRate_31 ?_
      obtain ⟨p6, hp6, hE⟩ := bnd_ob hE
      suffices Jp6 : WM X o hn M G 0 0 40 6 [(0, .ref (o 30)), (1, .int x1), (2, .int x2), (3, .int y1), (4, .int y2)] [.int p6] by
        refine q_icmp_ne (pc := 32) hX 39 (by decide) dX2_greatestRate_32 (fun c => ?_) (fun c => ?_)
        · rw [if_neg c] at hp6
          refine q_iconst (pc := 39) hX (0) rfl dX2_greatestRate_39 ?_
          cases hp6
          exact Jp6
        · rw [if_pos c] at hp6
          refine q_iconst (pc := 35) hX (1) rfl dX2_greatestRate_35 ?_
          refine q_goto (pc := 36) hX 40 (by decide) dX2_greatestRate_36 ?_
          cases hp6
          exact Jp6
      refine q_istore (pc := 40) (lo' := [(0, .ref (o 30)), (1, .int x1), (2, .int x2), (3, .int y1), (4, .int y2), (5, .int p6)]) hX [1, 2, 3, 4, 5, 0] (by decide) rfl dX2_greatestRate_40 ?_
      refine q_iload (pc := 42) hX 5 rfl dX2_greatestRate_42 ?_
      obtain ⟨p13, hp13, hE⟩ := ob_bind hE
      suffices Jp13 : WM X o hn M G 0 0 89 6 [(0, .ref (o 30)), (1, .int x1), (2, .int x2), (3, .int p13), (4, .int y2)] [] by
        refine q_if_eq (pc := 44) hX 89 (by decide) dX2_greatestRate_44 (fun c => ?_) (fun c => ?_)
        · rw [if_pos c] at hp13
          refine q_lo [0, 1, 2, 3, 4] rfl ?_
          cases hp13
          exact Jp13
        · rw [if_neg c] at hp13
          refine q_iload_n (pc := 47) hX 2 rfl rfl dX2_greatestRate_47 ?_
          refine q_aload_n (pc := 48) hX 0 rfl rfl dX2_greatestRate_48 ?_
          refine q_get (pc := 49) (id := 30) (ci := 2) (N := 1) (T := TX2) (C := RX2) hX 0 (lt46 (by decide)) rfl rfl in_X2 (by decide) (Or.inl kw_30) rfl dX2_greatestRate_49 ?_
          refine q_iload (pc := 52) hX 4 rfl dX2_greatestRate_52 ?_
          refine q_iconst (pc := 54) hX (1) rfl dX2_greatestRate_54 ?_
          obtain ⟨r8, hr8, hp13⟩ := ob_bind hp13
          refine q_callV (pc := 55) (id := 31) (As := [.int y2, .int 1]) (rest := [.int x2]) (rv := some (.int r8)) (st' := [.int r8, .int x2]) hX (c_X4_get (tb_31 hn) hr8) (vl_X2_32) (lt46 (by decide)) (ob_T (tb_31 hn).1 _ _) rfl rfl pd_yX4_get rfl ⟨by decide, by decide⟩ ⟨Nat.le_of_ble_eq_true rfl, Nat.le_of_ble_eq_true rfl⟩ rfl (Nat.le_of_ble_eq_true rfl) rfl dX2_greatestRate_55 ?_
          refine q_aload_n (pc := 58) hX 0 rfl rfl dX2_greatestRate_58 ?_
          refine q_get (pc := 59) (id := 30) (ci := 2) (N := 1) (T := TX2) (C := RX2) hX 0 (lt46 (by decide)) rfl rfl in_X2 (by decide) (Or.inl kw_30) rfl dX2_greatestRate_59 ?_
          refine q_iload (pc := 62) hX 4 rfl dX2_greatestRate_62 ?_
          refine q_iconst (pc := 64) hX (2) rfl dX2_greatestRate_64 ?_
          obtain ⟨r9, hr9, hp13⟩ := ob_bind hp13
          refine q_callV (pc := 65) (id := 31) (As := [.int y2, .int 2]) (rest := [.int r8, .int x2]) (rv := some (.int r9)) (st' := [.int r9, .int r8, .int x2]) hX (c_X4_get (tb_31 hn) hr9) (vl_X2_32) (lt46 (by decide)) (ob_T (tb_31 hn).1 _ _) rfl rfl pd_yX4_get rfl ⟨by decide, by decide⟩ ⟨Nat.le_of_ble_eq_true rfl, Nat.le_of_ble_eq_true rfl⟩ rfl (Nat.le_of_ble_eq_true rfl) rfl dX2_greatestRate_65 ?_
          obtain ⟨r10, hr10, hp13⟩ := ob_bind hp13
          refine q_callS (pc := 68) (As := [.int x2, .int r8, .int r9]) (rest := []) (rv := some (.int r10)) (st' := [.int r10]) hX (c_X2_isBetween hr10) (sl_X2_51) pd_yX2_isBetween rfl ⟨by decide, by decide⟩ ⟨Nat.le_of_ble_eq_true rfl, Nat.le_of_ble_eq_true rfl⟩ rfl (Nat.le_of_ble_eq_true rfl) rfl dX2_greatestRate_68 ?_
          refine q_if_eq (pc := 71) hX 89 (by decide) dX2_greatestRate_71 (fun c => ?_) (fun c => ?_)
          · rw [if_pos c] at hp13
            refine q_lo [0, 1, 2, 3, 4] rfl ?_
            cases hp13
            exact Jp13
          · rw [if_neg c] at hp13
            refine q_iload_n (pc := 74) hX 3 rfl rfl dX2_greatestRate_74 ?_
            refine q_aload_n (pc := 75) hX 0 rfl rfl dX2_greatestRate_75 ?_
            refine q_get (pc := 76) (id := 30) (ci := 2) (N := 1) (T := TX2) (C := RX2) hX 0 (lt46 (by decide)) rfl rfl in_X2 (by decide) (Or.inl kw_30) rfl dX2_greatestRate_76 ?_
            refine q_iload (pc := 79) hX 4 rfl dX2_greatestRate_79 ?_
            refine q_iconst (pc := 81) hX (3) rfl dX2_greatestRate_81 ?_
            obtain ⟨r11, hr11, hp13⟩ := ob_bind hp13
            refine q_callV (pc := 82) (id := 31) (As := [.int y2, .int 3]) (rest := [.int y1]) (rv := some (.int r11)) (st' := [.int r11, .int y1]) hX (c_X4_get (tb_31 hn) hr11) (vl_X2_32) (lt46 (by decide)) (ob_T (tb_31 hn).1 _ _) rfl rfl pd_yX4_get rfl ⟨by decide, by decide⟩ ⟨Nat.le_of_ble_eq_true rfl, Nat.le_of_ble_eq_true rfl⟩ rfl (Nat.le_of_ble_eq_true rfl) rfl dX2_greatestRate_82 ?_
            refine r_max (pc := 85) hX kw_300 kw_200 kw_192 kw_201 (by decide) (Nat.le_of_ble_eq_true rfl) (Nat.le_of_ble_eq_true rfl) (Nat.le_of_ble_eq_true rfl) dX2_greatestRate_85 ?_
            refine q_nm (fun z12 hz12 => ?_)
            have hp13 := bnd_nm hz12 hp13
            refine q_istore_n (pc := 88) (lo' := [(0, .ref (o 30)), (1, .int x1), (2, .int x2), (3, .int z12), (4, .int y2), (5, .int p6)]) hX [1, 2, 3, 0, 4, 5] rfl (by decide) rfl dX2_greatestRate_88 ?_
            refine q_lo [0, 1, 2, 3, 4] rfl ?_
            cases hp13
            exact Jp13
      obtain ⟨z14, hz14⟩ : ∃ z : Int32, z = y2 + 1 := ⟨_, rfl⟩
      have hE := bnd_nm hz14 hE
      refine q_iinc (pc := 89) (lo' := [(0, .ref (o 30)), (1, .int x1), (2, .int x2), (3, .int p13), (4, .int z14)]) hX 4 z14 [1, 2, 3, 4, 0] rfl (by rw [hz14]; rfl) (by decide) rfl dX2_greatestRate_89 ?_
      refine q_goto (pc := 92) hX 5 (by decide) dX2_greatestRate_92 ?_
      exact ih _ _ p15 hE hx

set_option maxHeartbeats 4000000 in
theorem c_X2_greatestRate {Y : Lx} {o : Nat → Nat} {hn : Nat} {M : Mem} {G : Mel} {x1 : Int32} {x2 : Int32} {rr : Int32} (hE : s_X2_greatestRate M x1 x2 = some (rr)) : MI Y yX2_greatestRate cX2_greatestRate 6 (some .int) 1 24 0 0 [.ref (o 30), .int x1, .int x2] o hn M G (.inl (some (.int rr))) M G := by
  refine MI.of (by decide +kernel) (Nat.le_of_ble_eq_true rfl) (fun X hY hX hE0 hR => ?_)
  change CxOK X RX2 cX2_greatestRate 6 1 24 0 0 (some .int) at hX
  show WM X o hn M G 0 0 0 6 [(0, .ref (o 30)), (1, .int x1), (2, .int x2)] []
  unfold s_X2_greatestRate at hE
  refine q_iconst (pc := 0) hX (0) rfl dX2_greatestRate_0 ?_
  refine q_istore_n (pc := 1) (lo' := [(0, .ref (o 30)), (1, .int x1), (2, .int x2), (3, .int 0)]) hX [1, 2, 3, 0] rfl (by decide) rfl dX2_greatestRate_1 ?_
  refine q_iconst (pc := 2) hX (0) rfl dX2_greatestRate_2 ?_
  refine q_istore (pc := 3) (lo' := [(0, .ref (o 30)), (1, .int x1), (2, .int x2), (3, .int 0), (4, .int 0)]) hX [1, 2, 3, 4, 0] (by decide) rfl dX2_greatestRate_3 ?_
  obtain ⟨p15, hp15, hE⟩ := ob_bind hE
  refine l_X2_greatestRate_5 hX hE0 FU _ _ p15 hp15 ?_
  refine q_iload_n (pc := 95) hX 3 rfl rfl dX2_greatestRate_95 ?_
  cases hE
  exact q_iret hX hR (by decide) (by decide) dX2_greatestRate_96

set_option maxHeartbeats 4000000 in
theorem l_X2_sumOver_8 {X : Cx} (hX : CxOK X RX2 cX2_sumOver 8 2 49 0 0 (some .int)) (hE0 : CxE X []) {o : Nat → Nat} {hn : Nat} {M : Mem} {x2 : Int32} {G : Mel} : ∀ (f : Nat) (y1 : Int32) (y2 : Int32) (y3 : Int32) (p10 : Int32 × Int32 × Int32), L_X2_sumOver_8 M x2 f y1 y2 y3 = some p10 → WM X o hn M G 0 0 84 8 [(0, .ref (o 30)), (2, .int x2), (3, .int p10.1), (4, .int p10.2.1), (5, .int p10.2.2)] [] → WM X o hn M G 0 0 8 8 [(0, .ref (o 30)), (2, .int x2), (3, .int y1), (4, .int y2), (5, .int y3)] [] := by
  intro f
  induction f with
  | zero => intro y1 y2 y3 p10 hE; simp [L_X2_sumOver_8] at hE
  | succ f ih =>
    intro y1 y2 y3 p10 hE hx
    rw [L_X2_sumOver_8] at hE
    refine q_iload (pc := 8) hX 4 rfl dX2_sumOver_8 ?_
    refine q_sipush (pc := 10) hX (1440) (by decide) dX2_sumOver_10 ?_
    refine q_icmp_ge (pc := 13) hX 84 (by decide) dX2_sumOver_13 (fun c => ?_) (fun c => ?_)
    · rw [if_pos c] at hE
      cases hE
      exact hx
    · rw [if_neg c] at hE
      refine q_iload (pc := 16) hX 3 rfl dX2_sumOver_16 ?_
      refine q_iload_n (pc := 18) hX 1 rfl rfl dX2_sumOver_18 ?_
      refine q_icmp_ge (pc := 19) hX 84 (by decide) dX2_sumOver_19 (fun c => ?_) (fun c => ?_)
      · rw [if_pos c] at hE
        cases hE
        exact hx
      · rw [if_neg c] at hE
        refine q_iload (pc := 22) hX 3 rfl dX2_sumOver_22 ?_
        refine q_sipush (pc := 24) hX (1440) (by decide) dX2_sumOver_24 ?_
        refine q_idiv (pc := 27) hX (by decide) dX2_sumOver_27 ?_
        refine q_nm (fun z4 hz4 => ?_)
        have hE := bnd_nm hz4 hE
        refine q_istore (pc := 28) (lo' := [(0, .ref (o 30)), (2, .int x2), (3, .int y1), (4, .int y2), (5, .int y3), (6, .int z4)]) hX [1, 2, 3, 4, 5, 0] (by decide) rfl dX2_sumOver_28 ?_
        refine q_iload_n (pc := 30) hX 1 rfl rfl dX2_sumOver_30 ?_
        refine q_iload (pc := 31) hX 5 rfl dX2_sumOver_31 ?_
        refine q_sipush (pc := 33) hX (1440) (by decide) dX2_sumOver_33 ?_
        refine q_imul (pc := 36) hX dX2_sumOver_36 ?_
        refine q_aload_n (pc := 37) hX 0 rfl rfl dX2_sumOver_37 ?_
        refine q_iload (pc := 38) hX 3 rfl dX2_sumOver_38 ?_
        refine q_sipush (pc := 40) hX (1440) (by decide) dX2_sumOver_40 ?_
        refine q_irem (pc := 43) hX (by decide) dX2_sumOver_43 ?_
        obtain ⟨r5, hr5, hE⟩ := ob_bind hE
        refine q_callV (pc := 44) (id := 30) (As := [.int (y2 - y2 / 1440 * 1440)]) (rest := [.int (z4 * 1440), .int x2]) (rv := some (.int r5)) (st' := [.int r5, .int (z4 * 1440), .int x2]) hX (c_X2_nextChange hr5) (vl_X2_39) (lt46 (by decide)) rfl rfl rfl pd_yX2_nextChange rfl ⟨by decide, by decide⟩ ⟨Nat.le_of_ble_eq_true rfl, Nat.le_of_ble_eq_true rfl⟩ rfl (Nat.le_of_ble_eq_true rfl) rfl dX2_sumOver_44 ?_
        refine q_iadd (pc := 47) hX dX2_sumOver_47 ?_
        refine r_min (pc := 48) hX kw_291 kw_191 kw_192 kw_193 (by decide) (Nat.le_of_ble_eq_true rfl) (Nat.le_of_ble_eq_true rfl) (Nat.le_of_ble_eq_true rfl) dX2_sumOver_48 ?_
        refine q_nm (fun z6 hz6 => ?_)
        have hE := bnd_nm hz6 hE
        refine q_istore (pc := 51) (lo' := [(0, .ref (o 30)), (2, .int x2), (3, .int y1), (4, .int y2), (5, .int y3), (6, .int z4), (7, .int z6)]) hX [1, 2, 3, 4, 5, 6, 0] (by decide) rfl dX2_sumOver_51 ?_
        refine q_iload_n (pc := 53) hX 2 rfl rfl dX2_sumOver_53 ?_
        refine q_aload_n (pc := 54) hX 0 rfl rfl dX2_sumOver_54 ?_
        refine q_iload (pc := 55) hX 5 rfl dX2_sumOver_55 ?_
        refine q_iload (pc := 57) hX 3 rfl dX2_sumOver_57 ?_
        refine q_sipush (pc := 59) hX (1440) (by decide) dX2_sumOver_59 ?_
        refine q_irem (pc := 62) hX (by decide) dX2_sumOver_62 ?_
        obtain ⟨r7, hr7, hE⟩ := ob_bind hE
        refine q_callV (pc := 63) (id := 30) (As := [.int z4, .int (y2 - y2 / 1440 * 1440)]) (rest := [.int y1]) (rv := some (.int r7)) (st' := [.int r7, .int y1]) hX (c_X2_greatestRate hr7) (vl_X2_48) (lt46 (by decide)) rfl rfl rfl pd_yX2_greatestRate rfl ⟨by decide, by decide⟩ ⟨Nat.le_of_ble_eq_true rfl, Nat.le_of_ble_eq_true rfl⟩ rfl (Nat.le_of_ble_eq_true rfl) rfl dX2_sumOver_63 ?_
        refine q_iload (pc := 66) hX 6 rfl dX2_sumOver_66 ?_
        refine q_iload (pc := 68) hX 3 rfl dX2_sumOver_68 ?_
        refine q_isub (pc := 70) hX dX2_sumOver_70 ?_
        refine q_imul (pc := 71) hX dX2_sumOver_71 ?_
        refine q_iadd (pc := 72) hX dX2_sumOver_72 ?_
        refine q_nm (fun z8 hz8 => ?_)
        have hE := bnd_nm hz8 hE
        refine q_istore_n (pc := 73) (lo' := [(0, .ref (o 30)), (2, .int x2), (3, .int z8), (4, .int y2), (5, .int y3), (6, .int z4), (7, .int z6)]) hX [1, 2, 0, 3, 4, 5, 6] rfl (by decide) rfl dX2_sumOver_73 ?_
        refine q_iload (pc := 74) hX 6 rfl dX2_sumOver_74 ?_
        refine q_istore (pc := 76) (lo' := [(0, .ref (o 30)), (2, .int x2), (3, .int z8), (4, .int z6), (5, .int y3), (6, .int z4), (7, .int z6)]) hX [1, 2, 3, 0, 4, 5, 6] (by decide) rfl dX2_sumOver_76 ?_
        obtain ⟨z9, hz9⟩ : ∃ z : Int32, z = y3 + 1 := ⟨_, rfl⟩
        have hE := bnd_nm hz9 hE
        refine q_iinc (pc := 78) (lo' := [(0, .ref (o 30)), (2, .int x2), (3, .int z8), (4, .int z6), (5, .int z9), (6, .int z4), (7, .int z6)]) hX 4 z9 [1, 2, 3, 4, 0, 5, 6] rfl (by rw [hz9]; rfl) (by decide) rfl dX2_sumOver_78 ?_
        refine q_goto (pc := 81) hX 8 (by decide) dX2_sumOver_81 ?_
        refine q_lo [0, 1, 2, 3, 4] rfl ?_
        exact ih _ _ _ p10 hE hx

set_option maxHeartbeats 4000000 in
theorem c_X2_sumOver {Y : Lx} {o : Nat → Nat} {hn : Nat} {M : Mem} {G : Mel} {x1 : Int32} {x2 : Int32} {rr : Int32} (hE : s_X2_sumOver M x1 x2 = some (rr)) : MI Y yX2_sumOver cX2_sumOver 8 (some .int) 2 49 0 0 [.ref (o 30), .int x1, .int x2] o hn M G (.inl (some (.int rr))) M G := by
  refine MI.of (by decide +kernel) (Nat.le_of_ble_eq_true rfl) (fun X hY hX hE0 hR => ?_)
  change CxOK X RX2 cX2_sumOver 8 2 49 0 0 (some .int) at hX
  show WM X o hn M G 0 0 0 8 [(0, .ref (o 30)), (1, .int x1), (2, .int x2)] []
  unfold s_X2_sumOver at hE
  refine q_iconst (pc := 0) hX (0) rfl dX2_sumOver_0 ?_
  refine q_istore_n (pc := 1) (lo' := [(0, .ref (o 30)), (1, .int x1), (2, .int x2), (3, .int 0)]) hX [1, 2, 3, 0] rfl (by decide) rfl dX2_sumOver_1 ?_
  refine q_iload_n (pc := 2) hX 1 rfl rfl dX2_sumOver_2 ?_
  refine q_istore (pc := 3) (lo' := [(0, .ref (o 30)), (1, .int x1), (2, .int x2), (3, .int 0), (4, .int x1)]) hX [1, 2, 3, 4, 0] (by decide) rfl dX2_sumOver_3 ?_
  refine q_iconst (pc := 5) hX (0) rfl dX2_sumOver_5 ?_
  refine q_istore (pc := 6) (lo' := [(0, .ref (o 30)), (1, .int x1), (2, .int x2), (3, .int 0), (4, .int x1), (5, .int 0)]) hX [1, 2, 3, 4, 5, 0] (by decide) rfl dX2_sumOver_6 ?_
  obtain ⟨p10, hp10, hE⟩ := ob_bind hE
  refine q_lo [0, 2, 3, 4, 5] rfl ?_
  refine l_X2_sumOver_8 hX hE0 FU _ _ _ p10 hp10 ?_
  refine q_iload_n (pc := 84) hX 2 rfl rfl dX2_sumOver_84 ?_
  cases hE
  exact q_iret hX hR (by decide) (by decide) dX2_sumOver_85

set_option maxHeartbeats 4000000 in
theorem l_X2_payFor_4 {X : Cx} (hX : CxOK X RX2 cX2_payFor 4 3 76 0 0 (some .int)) (hE0 : CxE X []) {o : Nat → Nat} {hn : Nat} {M : Mem} {t1 : Nat} {G : Mel} (ht1 : tb hn t1) : ∀ (f : Nat) (y1 : Int32) (y2 : Int32) (p9 : Int32 × Int32), L_X2_payFor_4 M t1 f y1 y2 = some p9 → WM X o hn M G 0 0 37 4 [(0, .ref (o 30)), (1, .ref (o t1)), (2, .int p9.1), (3, .int p9.2)] [] → WM X o hn M G 0 0 4 4 [(0, .ref (o 30)), (1, .ref (o t1)), (2, .int y1), (3, .int y2)] [] := by
  intro f
  induction f with
  | zero => intro y1 y2 p9 hE; simp [L_X2_payFor_4] at hE
  | succ f ih =>
    intro y1 y2 p9 hE hx
    rw [L_X2_payFor_4] at hE
    refine q_iload_n (pc := 4) hX 3 rfl rfl dX2_payFor_4 ?_
    refine q_aload_n (pc := 5) hX 1 rfl rfl dX2_payFor_5 ?_
    obtain ⟨r3, hr3, hE⟩ := ob_bind hE
    refine q_callV (pc := 6) (id := t1) (As := []) (rest := [.int y2]) (rv := some (.int r3)) (st' := [.int r3, .int y2]) hX (c_X4_size ht1 hr3) (vl_X2_20) (tb_lt ht1) (ob_T ht1.1 _ _) rfl rfl pd_yX4_size rfl ⟨by decide, by decide⟩ ⟨Nat.le_of_ble_eq_true rfl, Nat.le_of_ble_eq_true rfl⟩ rfl (Nat.le_of_ble_eq_true rfl) rfl dX2_payFor_6 ?_
    refine q_icmp_ge (pc := 9) hX 37 (by decide) dX2_payFor_9 (fun c => ?_) (fun c => ?_)
    · rw [if_pos c] at hE
      cases hE
      exact hx
    · rw [if_neg c] at hE
      refine q_iload_n (pc := 12) hX 2 rfl rfl dX2_payFor_12 ?_
      refine q_aload_n (pc := 13) hX 0 rfl rfl dX2_payFor_13 ?_
      refine q_aload_n (pc := 14) hX 1 rfl rfl dX2_payFor_14 ?_
      refine q_iload_n (pc := 15) hX 3 rfl rfl dX2_payFor_15 ?_
      refine q_iconst (pc := 16) hX (0) rfl dX2_payFor_16 ?_
      obtain ⟨r4, hr4, hE⟩ := ob_bind hE
      refine q_callV (pc := 17) (id := t1) (As := [.int y2, .int 0]) (rest := [.ref (o 30), .int y1]) (rv := some (.int r4)) (st' := [.int r4, .ref (o 30), .int y1]) hX (c_X4_get ht1 hr4) (vl_X2_32) (tb_lt ht1) (ob_T ht1.1 _ _) rfl rfl pd_yX4_get rfl ⟨by decide, by decide⟩ ⟨Nat.le_of_ble_eq_true rfl, Nat.le_of_ble_eq_true rfl⟩ rfl (Nat.le_of_ble_eq_true rfl) rfl dX2_payFor_17 ?_
      refine q_aload_n (pc := 20) hX 1 rfl rfl dX2_payFor_20 ?_
      refine q_iload_n (pc := 21) hX 3 rfl rfl dX2_payFor_21 ?_
      refine q_iconst (pc := 22) hX (1) rfl dX2_payFor_22 ?_
      obtain ⟨r5, hr5, hE⟩ := ob_bind hE
      refine q_callV (pc := 23) (id := t1) (As := [.int y2, .int 1]) (rest := [.int r4, .ref (o 30), .int y1]) (rv := some (.int r5)) (st' := [.int r5, .int r4, .ref (o 30), .int y1]) hX (c_X4_get ht1 hr5) (vl_X2_32) (tb_lt ht1) (ob_T ht1.1 _ _) rfl rfl pd_yX4_get rfl ⟨by decide, by decide⟩ ⟨Nat.le_of_ble_eq_true rfl, Nat.le_of_ble_eq_true rfl⟩ rfl (Nat.le_of_ble_eq_true rfl) rfl dX2_payFor_23 ?_
      obtain ⟨r6, hr6, hE⟩ := ob_bind hE
      refine q_callV (pc := 26) (id := 30) (As := [.int r4, .int r5]) (rest := [.int y1]) (rv := some (.int r6)) (st' := [.int r6, .int y1]) hX (c_X2_sumOver hr6) (vl_X2_36) (lt46 (by decide)) rfl rfl rfl pd_yX2_sumOver rfl ⟨by decide, by decide⟩ ⟨Nat.le_of_ble_eq_true rfl, Nat.le_of_ble_eq_true rfl⟩ rfl (Nat.le_of_ble_eq_true rfl) rfl dX2_payFor_26 ?_
      refine q_iadd (pc := 29) hX dX2_payFor_29 ?_
      refine q_nm (fun z7 hz7 => ?_)
      have hE := bnd_nm hz7 hE
      refine q_istore_n (pc := 30) (lo' := [(0, .ref (o 30)), (1, .ref (o t1)), (2, .int z7), (3, .int y2)]) hX [1, 2, 0, 3] rfl (by decide) rfl dX2_payFor_30 ?_
      obtain ⟨z8, hz8⟩ : ∃ z : Int32, z = y2 + 1 := ⟨_, rfl⟩
      have hE := bnd_nm hz8 hE
      refine q_iinc (pc := 31) (lo' := [(0, .ref (o 30)), (1, .ref (o t1)), (2, .int z7), (3, .int z8)]) hX 3 z8 [1, 2, 3, 0] rfl (by rw [hz8]; rfl) (by decide) rfl dX2_payFor_31 ?_
      refine q_goto (pc := 34) hX 4 (by decide) dX2_payFor_34 ?_
      exact ih _ _ p9 hE hx

set_option maxHeartbeats 4000000 in
theorem c_X2_payFor {Y : Lx} {o : Nat → Nat} {hn : Nat} {M : Mem} {G : Mel} {t1 : Nat} {rr : Int32} (ht1 : tb hn t1) (hE : s_X2_payFor M t1 = some (rr)) : MI Y yX2_payFor cX2_payFor 4 (some .int) 3 76 0 0 [.ref (o 30), .ref (o t1)] o hn M G (.inl (some (.int rr))) M G := by
  refine MI.of (by decide +kernel) (Nat.le_of_ble_eq_true rfl) (fun X hY hX hE0 hR => ?_)
  change CxOK X RX2 cX2_payFor 4 3 76 0 0 (some .int) at hX
  show WM X o hn M G 0 0 0 4 [(0, .ref (o 30)), (1, .ref (o t1))] []
  unfold s_X2_payFor at hE
  refine q_iconst (pc := 0) hX (0) rfl dX2_payFor_0 ?_
  refine q_istore_n (pc := 1) (lo' := [(0, .ref (o 30)), (1, .ref (o t1)), (2, .int 0)]) hX [1, 2, 0] rfl (by decide) rfl dX2_payFor_1 ?_
  refine q_iconst (pc := 2) hX (0) rfl dX2_payFor_2 ?_
  refine q_istore_n (pc := 3) (lo' := [(0, .ref (o 30)), (1, .ref (o t1)), (2, .int 0), (3, .int 0)]) hX [1, 2, 3, 0] rfl (by decide) rfl dX2_payFor_3 ?_
  obtain ⟨p9, hp9, hE⟩ := ob_bind hE
  refine l_X2_payFor_4 hX hE0 ht1 FU _ _ p9 hp9 ?_
  refine q_iload_n (pc := 37) hX 2 rfl rfl dX2_payFor_37 ?_
  refine q_bipush (pc := 38) hX (30) (by decide) dX2_payFor_38 ?_
  refine q_iadd (pc := 40) hX dX2_payFor_40 ?_
  refine q_bipush (pc := 41) hX (60) (by decide) dX2_payFor_41 ?_
  refine q_idiv (pc := 43) hX (by decide) dX2_payFor_43 ?_
  cases hE
  exact q_iret hX hR (by decide) (by decide) dX2_payFor_44
end
section
/-! find answers an employee's number -/
theorem find_em {hn : Nat} {x : Int32} {r : Nat × Nat} (h : s_X6_find hn x = some r) (hk : r.1 = 0) : em hn r.2 := by
  unfold s_X6_find at h
  split at h
  · cases h; cases hk
  · split at h
    · cases h; cases hk
    · split at h
      · obtain ⟨u, h1, h2⟩ := ob_bind h
        cases h2
        exact mrs_em h1
      · cases h; cases hk
end
section
set_option maxHeartbeats 4000000 in
theorem c_X6_requireWithin {Y : Lx} {o : Nat → Nat} {hn : Nat} {M : Mem} {G : Mel} {x0 : Int32} {x1 : Int32} {x2 : Int32} (hE : s_X6_requireWithin x0 x1 x2 = some (0)) : MI Y yX6_requireWithin cX6_requireWithin 3 none 0 0 0 0 [.int x0, .int x1, .int x2] o hn M G (.inl (none)) M G := by
  refine MI.of (by decide +kernel) (Nat.le_of_ble_eq_true rfl) (fun X hY hX hE0 hR => ?_)
  change CxOK X RX6 cX6_requireWithin 3 0 0 0 0 none at hX
  show WM X o hn M G 0 0 0 3 [(0, .int x0), (1, .int x1), (2, .int x2)] []
  unfold s_X6_requireWithin at hE
  refine q_iload_n (pc := 0) hX 0 rfl rfl dX6_requireWithin_0 ?_
  refine q_iload_n (pc := 1) hX 1 rfl rfl dX6_requireWithin_1 ?_
  refine q_icmp_lt (pc := 2) hX 10 (by decide) dX6_requireWithin_2 (fun c => ?_) (fun c => ?_)
  · rw [if_pos c] at hE
    have h9 : (1 : Nat) = 0 := Option.some.inj hE
    exact absurd h9 (by decide)
  · rw [if_neg c] at hE
    refine q_iload_n (pc := 5) hX 0 rfl rfl dX6_requireWithin_5 ?_
    refine q_iload_n (pc := 6) hX 2 rfl rfl dX6_requireWithin_6 ?_
    refine q_icmp_le (pc := 7) hX 20 (by decide) dX6_requireWithin_7 (fun c => ?_) (fun c => ?_)
    · rw [if_pos c] at hE
      cases hE
      exact q_vret hX hR (by decide) (by decide) dX6_requireWithin_20
    · rw [if_neg c] at hE
      have h9 : (1 : Nat) = 0 := Option.some.inj hE
      exact absurd h9 (by decide)

set_option maxHeartbeats 4000000 in
theorem c_X6_requireRoom {Y : Lx} {o : Nat → Nat} {hn : Nat} {M : Mem} {G : Mel} {t0 : Nat} {x1 : Int32} (ht0 : tb hn t0) (hE : s_X6_requireRoom M t0 x1 = some (0)) : MI Y yX6_requireRoom cX6_requireRoom 2 none 1 20 0 0 [.ref (o t0), .int x1] o hn M G (.inl (none)) M G := by
  refine MI.of (by decide +kernel) (Nat.le_of_ble_eq_true rfl) (fun X hY hX hE0 hR => ?_)
  change CxOK X RX6 cX6_requireRoom 2 1 20 0 0 none at hX
  show WM X o hn M G 0 0 0 2 [(0, .ref (o t0)), (1, .int x1)] []
  unfold s_X6_requireRoom at hE
  refine q_aload_n (pc := 0) hX 0 rfl rfl dX6_requireRoom_0 ?_
  obtain ⟨r1, hr1, hE⟩ := ob_bind hE
  refine q_callV (pc := 1) (id := t0) (As := []) (rest := []) (rv := some (.int r1)) (st' := [.int r1]) hX (c_X4_size ht0 hr1) (vl_X6_93) (tb_lt ht0) (ob_T ht0.1 _ _) rfl rfl pd_yX4_size rfl ⟨by decide, by decide⟩ ⟨Nat.le_of_ble_eq_true rfl, Nat.le_of_ble_eq_true rfl⟩ rfl (Nat.le_of_ble_eq_true rfl) rfl dX6_requireRoom_1 ?_
  refine q_iload_n (pc := 4) hX 1 rfl rfl dX6_requireRoom_4 ?_
  refine q_icmp_lt (pc := 5) hX 18 (by decide) dX6_requireRoom_5 (fun c => ?_) (fun c => ?_)
  · rw [if_pos c] at hE
    cases hE
    exact q_vret hX hR (by decide) (by decide) dX6_requireRoom_18
  · rw [if_neg c] at hE
    have h9 : (2 : Nat) = 0 := Option.some.inj hE
    exact absurd h9 (by decide)

set_option maxHeartbeats 4000000 in
theorem c_X6_addPremium {Y : Lx} {o : Nat → Nat} {hn : Nat} {M : Mem} {G : Mel} {x1 : Int32} {x2 : Int32} {x3 : Int32} {x4 : Int32} {rr : Int32} {Mr : Mem} (hE : s_X6_addPremium M x1 x2 x3 x4 = some (0, rr, Mr)) : MI Y yX6_addPremium cX6_addPremium 5 (some .int) 2 49 0 0 [.ref (o 28), .int x1, .int x2, .int x3, .int x4] o hn M G (.inl (some (.int rr))) Mr G := by
  refine MI.of (by decide +kernel) (Nat.le_of_ble_eq_true rfl) (fun X hY hX hE0 hR => ?_)
  change CxOK X RX6 cX6_addPremium 5 2 49 0 0 (some .int) at hX
  show WM X o hn M G 0 0 0 5 [(0, .ref (o 28)), (1, .int x1), (2, .int x2), (3, .int x3), (4, .int x4)] []
  unfold s_X6_addPremium at hE
  refine q_iload_n (pc := 0) hX 1 rfl rfl dX6_addPremium_0 ?_
  refine q_iconst (pc := 1) hX (1) rfl dX6_addPremium_1 ?_
  refine q_bipush (pc := 2) hX (127) (by decide) dX6_addPremium_2 ?_
  obtain ⟨r1, hr1, hE⟩ := ob_bind hE
  have hkr1 : r1 = 0 := by
    by_cases h9 : r1 = 0
    · exact h9
    · rw [if_pos h9] at hE
      exact congrArg Prod.fst (Option.some.inj hE)
  rw [if_neg (fun h => h hkr1)] at hE
  refine q_callS (pc := 4) (As := [.int x1, .int 1, .int 127]) (rest := []) (rv := none) (st' := []) hX (c_X6_requireWithin (thr_y hr1 hkr1)) (sl_X6_46) pd_yX6_requireWithin rfl ⟨by decide, by decide⟩ ⟨Nat.le_of_ble_eq_true rfl, Nat.le_of_ble_eq_true rfl⟩ rfl (Nat.le_of_ble_eq_true rfl) rfl dX6_addPremium_4 ?_
  refine q_iload_n (pc := 7) hX 2 rfl rfl dX6_addPremium_7 ?_
  refine q_iconst (pc := 8) hX (0) rfl dX6_addPremium_8 ?_
  refine q_sipush (pc := 9) hX (1439) (by decide) dX6_addPremium_9 ?_
  obtain ⟨r2, hr2, hE⟩ := ob_bind hE
  have hkr2 : r2 = 0 := by
    by_cases h9 : r2 = 0
    · exact h9
    · rw [if_pos h9] at hE
      exact congrArg Prod.fst (Option.some.inj hE)
  rw [if_neg (fun h => h hkr2)] at hE
  refine q_callS (pc := 12) (As := [.int x2, .int 0, .int 1439]) (rest := []) (rv := none) (st' := []) hX (c_X6_requireWithin (thr_y hr2 hkr2)) (sl_X6_46) pd_yX6_requireWithin rfl ⟨by decide, by decide⟩ ⟨Nat.le_of_ble_eq_true rfl, Nat.le_of_ble_eq_true rfl⟩ rfl (Nat.le_of_ble_eq_true rfl) rfl dX6_addPremium_12 ?_
  refine q_iload_n (pc := 15) hX 3 rfl rfl dX6_addPremium_15 ?_
  refine q_iconst (pc := 16) hX (0) rfl dX6_addPremium_16 ?_
  refine q_sipush (pc := 17) hX (1439) (by decide) dX6_addPremium_17 ?_
  obtain ⟨r3, hr3, hE⟩ := ob_bind hE
  have hkr3 : r3 = 0 := by
    by_cases h9 : r3 = 0
    · exact h9
    · rw [if_pos h9] at hE
      exact congrArg Prod.fst (Option.some.inj hE)
  rw [if_neg (fun h => h hkr3)] at hE
  refine q_callS (pc := 20) (As := [.int x3, .int 0, .int 1439]) (rest := []) (rv := none) (st' := []) hX (c_X6_requireWithin (thr_y hr3 hkr3)) (sl_X6_46) pd_yX6_requireWithin rfl ⟨by decide, by decide⟩ ⟨Nat.le_of_ble_eq_true rfl, Nat.le_of_ble_eq_true rfl⟩ rfl (Nat.le_of_ble_eq_true rfl) rfl dX6_addPremium_20 ?_
  refine q_iload (pc := 23) hX 4 rfl dX6_addPremium_23 ?_
  refine q_iconst (pc := 25) hX (1) rfl dX6_addPremium_25 ?_
  refine q_sipush (pc := 26) hX (10000) (by decide) dX6_addPremium_26 ?_
  obtain ⟨r4, hr4, hE⟩ := ob_bind hE
  have hkr4 : r4 = 0 := by
    by_cases h9 : r4 = 0
    · exact h9
    · rw [if_pos h9] at hE
      exact congrArg Prod.fst (Option.some.inj hE)
  rw [if_neg (fun h => h hkr4)] at hE
  refine q_callS (pc := 29) (As := [.int x4, .int 1, .int 10000]) (rest := []) (rv := none) (st' := []) hX (c_X6_requireWithin (thr_y hr4 hkr4)) (sl_X6_46) pd_yX6_requireWithin rfl ⟨by decide, by decide⟩ ⟨Nat.le_of_ble_eq_true rfl, Nat.le_of_ble_eq_true rfl⟩ rfl (Nat.le_of_ble_eq_true rfl) rfl dX6_addPremium_29 ?_
  refine q_aload_n (pc := 32) hX 0 rfl rfl dX6_addPremium_32 ?_
  refine q_get (pc := 33) (id := 28) (ci := 6) (N := 6) (T := TX6) (C := RX6) hX 2 (lt46 (by decide)) rfl rfl in_X6 (by decide) (Or.inl kw_16) rfl dX6_addPremium_33 ?_
  refine q_get (pc := 36) (id := 30) (ci := 2) (N := 1) (T := TX2) (C := RX2) hX 0 (lt46 (by decide)) rfl rfl in_X2 (by decide) (Or.inr ⟨_, fn_X6_122⟩) rfl dX6_addPremium_36 ?_
  refine q_bipush (pc := 39) hX (6) (by decide) dX6_addPremium_39 ?_
  obtain ⟨r5, hr5, hE⟩ := ob_bind hE
  have hkr5 : r5 = 0 := by
    by_cases h9 : r5 = 0
    · exact h9
    · rw [if_pos h9] at hE
      exact congrArg Prod.fst (Option.some.inj hE)
  rw [if_neg (fun h => h hkr5)] at hE
  refine q_callS (pc := 41) (As := [.ref (o 31), .int 6]) (rest := []) (rv := none) (st' := []) hX (c_X6_requireRoom (tb_31 hn) (thr_y hr5 hkr5)) (sl_X6_71) pd_yX6_requireRoom rfl ⟨by decide, by decide⟩ ⟨Nat.le_of_ble_eq_true rfl, Nat.le_of_ble_eq_true rfl⟩ rfl (Nat.le_of_ble_eq_true rfl) rfl dX6_addPremium_41 ?_
  refine q_aload_n (pc := 44) hX 0 rfl rfl dX6_addPremium_44 ?_
  refine q_get (pc := 45) (id := 28) (ci := 6) (N := 6) (T := TX6) (C := RX6) hX 2 (lt46 (by decide)) rfl rfl in_X6 (by decide) (Or.inl kw_16) rfl dX6_addPremium_45 ?_
  refine q_iload_n (pc := 48) hX 1 rfl rfl dX6_addPremium_48 ?_
  refine q_iload_n (pc := 49) hX 2 rfl rfl dX6_addPremium_49 ?_
  refine q_iload_n (pc := 50) hX 3 rfl rfl dX6_addPremium_50 ?_
  refine q_iload (pc := 51) hX 4 rfl dX6_addPremium_51 ?_
  obtain ⟨r6, hr6, hE⟩ := ob_bind hE
  refine q_callV (pc := 53) (id := 30) (As := [.int x1, .int x2, .int x3, .int x4]) (rest := []) (rv := some (.int r6.1)) (st' := [.int r6.1]) hX (c_X2_add hr6) (vl_X6_125) (lt46 (by decide)) rfl rfl rfl pd_yX2_add rfl ⟨by decide, by decide⟩ ⟨Nat.le_of_ble_eq_true rfl, Nat.le_of_ble_eq_true rfl⟩ rfl (Nat.le_of_ble_eq_true rfl) rfl dX6_addPremium_53 ?_
  cases hE
  exact q_iret hX hR (by decide) (by decide) dX6_addPremium_56

set_option maxHeartbeats 4000000 in
theorem c_X6_find {Y : Lx} {o : Nat → Nat} {hn : Nat} {M : Mem} {G : Mel} {x1 : Int32} {rr : Nat} (hE : s_X6_find hn x1 = some (0, rr)) : MI Y yX6_find cX6_find 3 (some (.object "Timesheets$Employee")) 0 0 0 0 [.ref (o 28), .int x1] o hn M G (.inl (some (.ref (o rr)))) M G := by
  refine MI.of (by decide +kernel) (Nat.le_of_ble_eq_true rfl) (fun X hY hX hE0 hR => ?_)
  change CxOK X RX6 cX6_find 3 0 0 0 0 (some (.object "Timesheets$Employee")) at hX
  show WM X o hn M G 0 0 0 3 [(0, .ref (o 28)), (1, .int x1)] []
  unfold s_X6_find at hE
  refine q_iload_n (pc := 0) hX 1 rfl rfl dX6_find_0 ?_
  refine q_if_lt (pc := 1) hX 21 (by decide) dX6_find_1 (fun c => ?_) (fun c => ?_)
  · rw [if_pos c] at hE
    have h9 : (3 : Nat) = 0 := congrArg Prod.fst (Option.some.inj hE)
    exact absurd h9 (by decide)
  · rw [if_neg c] at hE
    refine q_iload_n (pc := 4) hX 1 rfl rfl dX6_find_4 ?_
    refine q_aload_n (pc := 5) hX 0 rfl rfl dX6_find_5 ?_
    refine q_get (pc := 6) (id := 28) (ci := 6) (N := 6) (T := TX6) (C := RX6) hX 1 (lt46 (by decide)) rfl rfl in_X6 (by decide) (Or.inl kw_12) rfl dX6_find_6 ?_
    refine q_icmp_ge (pc := 9) hX 21 (by decide) dX6_find_9 (fun c => ?_) (fun c => ?_)
    · rw [if_pos c] at hE
      have h9 : (3 : Nat) = 0 := congrArg Prod.fst (Option.some.inj hE)
      exact absurd h9 (by decide)
    · rw [if_neg c] at hE
      refine q_iload_n (pc := 12) hX 1 rfl rfl dX6_find_12 ?_
      refine q_aload_n (pc := 13) hX 0 rfl rfl dX6_find_13 ?_
      refine q_get (pc := 14) (id := 28) (ci := 6) (N := 6) (T := TX6) (C := RX6) hX 0 (lt46 (by decide)) rfl rfl in_X6 (by decide) (Or.inl kw_11) rfl dX6_find_14 ?_
      refine r_alenS (pc := 17) hX dX6_find_17 ?_
      refine q_icmp_lt (pc := 18) hX 31 (by decide) dX6_find_18 (fun c => ?_) (fun c => ?_)
      · rw [if_pos c] at hE
        refine q_aload_n (pc := 31) hX 0 rfl rfl dX6_find_31 ?_
        refine q_get (pc := 32) (id := 28) (ci := 6) (N := 6) (T := TX6) (C := RX6) hX 0 (lt46 (by decide)) rfl rfl in_X6 (by decide) (Or.inl kw_11) rfl dX6_find_32 ?_
        refine q_iload_n (pc := 35) hX 1 rfl rfl dX6_find_35 ?_
        obtain ⟨u1, hu1, hE⟩ := ob_bind hE
        refine r_aald (pc := 36) hX hu1 dX6_find_36 ?_
        have hemu1 := mrs_em hu1
        refine q_astore_n (pc := 37) (lo' := [(0, .ref (o 28)), (1, .int x1), (2, .ref (o u1))]) hX [1, 2, 0] rfl (by decide) rfl dX6_find_37 ?_
        refine q_aload_n (pc := 38) hX 2 rfl rfl dX6_find_38 ?_
        refine q_ifnonnull (pc := 39) hX 52 (by decide) dX6_find_39 ?_
        refine q_aload_n (pc := 52) hX 2 rfl rfl dX6_find_52 ?_
        cases hE
        exact q_aret hX hR (by decide) (by decide) dX6_find_53
      · rw [if_neg c] at hE
        have h9 : (3 : Nat) = 0 := congrArg Prod.fst (Option.some.inj hE)
        exact absurd h9 (by decide)

set_option maxHeartbeats 4000000 in
theorem c_X6_addByHand {Y : Lx} {o : Nat → Nat} {hn : Nat} {M : Mem} {G : Mel} {t0 : Nat} {x1 : Int32} {x2 : Int32} {x3 : Int32} {rr : Int32} {Mr : Mem} (ht0 : tb hn t0) (hE : s_X6_addByHand M t0 x1 x2 x3 = some (0, rr, Mr)) : MI Y yX6_addByHand cX6_addByHand 4 (some .int) 2 47 0 0 [.ref (o t0), .int x1, .int x2, .int x3] o hn M G (.inl (some (.int rr))) Mr G := by
  refine MI.of (by decide +kernel) (Nat.le_of_ble_eq_true rfl) (fun X hY hX hE0 hR => ?_)
  change CxOK X RX6 cX6_addByHand 4 2 47 0 0 (some .int) at hX
  show WM X o hn M G 0 0 0 4 [(0, .ref (o t0)), (1, .int x1), (2, .int x2), (3, .int x3)] []
  unfold s_X6_addByHand at hE
  refine q_iload_n (pc := 0) hX 1 rfl rfl dX6_addByHand_0 ?_
  refine q_iconst (pc := 1) hX (0) rfl dX6_addByHand_1 ?_
  refine q_sipush (pc := 2) hX (10079) (by decide) dX6_addByHand_2 ?_
  obtain ⟨r1, hr1, hE⟩ := ob_bind hE
  have hkr1 : r1 = 0 := by
    by_cases h9 : r1 = 0
    · exact h9
    · rw [if_pos h9] at hE
      exact congrArg Prod.fst (Option.some.inj hE)
  rw [if_neg (fun h => h hkr1)] at hE
  refine q_callS (pc := 5) (As := [.int x1, .int 0, .int 10079]) (rest := []) (rv := none) (st' := []) hX (c_X6_requireWithin (thr_y hr1 hkr1)) (sl_X6_46) pd_yX6_requireWithin rfl ⟨by decide, by decide⟩ ⟨Nat.le_of_ble_eq_true rfl, Nat.le_of_ble_eq_true rfl⟩ rfl (Nat.le_of_ble_eq_true rfl) rfl dX6_addByHand_5 ?_
  refine q_iload_n (pc := 8) hX 2 rfl rfl dX6_addByHand_8 ?_
  refine q_iload_n (pc := 9) hX 1 rfl rfl dX6_addByHand_9 ?_
  refine q_iconst (pc := 10) hX (1) rfl dX6_addByHand_10 ?_
  refine q_iadd (pc := 11) hX dX6_addByHand_11 ?_
  refine q_sipush (pc := 12) hX (10080) (by decide) dX6_addByHand_12 ?_
  obtain ⟨r2, hr2, hE⟩ := ob_bind hE
  have hkr2 : r2 = 0 := by
    by_cases h9 : r2 = 0
    · exact h9
    · rw [if_pos h9] at hE
      exact congrArg Prod.fst (Option.some.inj hE)
  rw [if_neg (fun h => h hkr2)] at hE
  refine q_callS (pc := 15) (As := [.int x2, .int (x1 + 1), .int 10080]) (rest := []) (rv := none) (st' := []) hX (c_X6_requireWithin (thr_y hr2 hkr2)) (sl_X6_46) pd_yX6_requireWithin rfl ⟨by decide, by decide⟩ ⟨Nat.le_of_ble_eq_true rfl, Nat.le_of_ble_eq_true rfl⟩ rfl (Nat.le_of_ble_eq_true rfl) rfl dX6_addByHand_15 ?_
  refine q_aload_n (pc := 18) hX 0 rfl rfl dX6_addByHand_18 ?_
  refine q_iload_n (pc := 19) hX 3 rfl rfl dX6_addByHand_19 ?_
  obtain ⟨r3, hr3, hE⟩ := ob_bind hE
  have hkr3 : r3 = 0 := by
    by_cases h9 : r3 = 0
    · exact h9
    · rw [if_pos h9] at hE
      exact congrArg Prod.fst (Option.some.inj hE)
  rw [if_neg (fun h => h hkr3)] at hE
  refine q_callS (pc := 20) (As := [.ref (o t0), .int x3]) (rest := []) (rv := none) (st' := []) hX (c_X6_requireRoom ht0 (thr_y hr3 hkr3)) (sl_X6_71) pd_yX6_requireRoom rfl ⟨by decide, by decide⟩ ⟨Nat.le_of_ble_eq_true rfl, Nat.le_of_ble_eq_true rfl⟩ rfl (Nat.le_of_ble_eq_true rfl) rfl dX6_addByHand_20 ?_
  refine q_aload_n (pc := 23) hX 0 rfl rfl dX6_addByHand_23 ?_
  refine q_iload_n (pc := 24) hX 1 rfl rfl dX6_addByHand_24 ?_
  refine q_iload_n (pc := 25) hX 2 rfl rfl dX6_addByHand_25 ?_
  obtain ⟨r4, hr4, hE⟩ := ob_bind hE
  refine q_callV (pc := 26) (id := t0) (As := [.int x1, .int x2]) (rest := []) (rv := none) (st' := []) hX (c_X4_addSpan ht0 hr4) (vl_X6_209) (tb_lt ht0) (ob_T ht0.1 _ _) rfl rfl pd_yX4_addSpan rfl ⟨by decide, by decide⟩ ⟨Nat.le_of_ble_eq_true rfl, Nat.le_of_ble_eq_true rfl⟩ rfl (Nat.le_of_ble_eq_true rfl) rfl dX6_addByHand_26 ?_
  refine q_aload_n (pc := 29) hX 0 rfl rfl dX6_addByHand_29 ?_
  obtain ⟨r5, hr5, hE⟩ := ob_bind hE
  refine q_callV (pc := 30) (id := t0) (As := []) (rest := []) (rv := some (.int r5)) (st' := [.int r5]) hX (c_X4_size ht0 hr5) (vl_X6_93) (tb_lt ht0) (ob_T ht0.1 _ _) rfl rfl pd_yX4_size rfl ⟨by decide, by decide⟩ ⟨Nat.le_of_ble_eq_true rfl, Nat.le_of_ble_eq_true rfl⟩ rfl (Nat.le_of_ble_eq_true rfl) rfl dX6_addByHand_30 ?_
  refine q_iconst (pc := 33) hX (1) rfl dX6_addByHand_33 ?_
  refine q_isub (pc := 34) hX dX6_addByHand_34 ?_
  cases hE
  exact q_iret hX hR (by decide) (by decide) dX6_addByHand_35

set_option maxHeartbeats 4000000 in
theorem c_X6_enter {Y : Lx} {o : Nat → Nat} {hn : Nat} {M : Mem} {G : Mel} {x1 : Int32} {x2 : Int32} {x3 : Int32} {rr : Int32} {Mr : Mem} (hE : s_X6_enter M hn x1 x2 x3 = some (0, rr, Mr)) : MI Y yX6_enter cX6_enter 4 (some .int) 3 70 0 0 [.ref (o 28), .int x1, .int x2, .int x3] o hn M G (.inl (some (.int rr))) Mr G := by
  refine MI.of (by decide +kernel) (Nat.le_of_ble_eq_true rfl) (fun X hY hX hE0 hR => ?_)
  change CxOK X RX6 cX6_enter 4 3 70 0 0 (some .int) at hX
  show WM X o hn M G 0 0 0 4 [(0, .ref (o 28)), (1, .int x1), (2, .int x2), (3, .int x3)] []
  unfold s_X6_enter at hE
  refine q_aload_n (pc := 0) hX 0 rfl rfl dX6_enter_0 ?_
  refine q_iload_n (pc := 1) hX 1 rfl rfl dX6_enter_1 ?_
  obtain ⟨r1, hr1, hE⟩ := ob_bind hE
  have hkr1 : r1.1 = 0 := by
    by_cases h9 : r1.1 = 0
    · exact h9
    · rw [if_pos h9] at hE
      exact congrArg Prod.fst (Option.some.inj hE)
  rw [if_neg (fun h => h hkr1)] at hE
  refine q_callV (pc := 2) (id := 28) (As := [.int x1]) (rest := []) (rv := some (.ref (o r1.2))) (st' := [.ref (o r1.2)]) hX (c_X6_find (thr_z hr1 hkr1)) (vl_X6_60) (lt46 (by decide)) rfl rfl rfl pd_yX6_find rfl ⟨by decide, by decide⟩ ⟨Nat.le_of_ble_eq_true rfl, Nat.le_of_ble_eq_true rfl⟩ rfl (Nat.le_of_ble_eq_true rfl) rfl dX6_enter_2 ?_
  have hemr1 := find_em hr1 hkr1
  refine q_get (pc := 5) (id := r1.2) (ci := 0) (N := 6) (T := TX0) (C := RX0) hX 4 (em_lt hemr1) (ob_E hemr1 _ _) rfl in_X0 (by decide) (Or.inr ⟨_, fn_X6_109⟩) rfl dX6_enter_5 ?_
  refine q_iload_n (pc := 8) hX 2 rfl rfl dX6_enter_8 ?_
  refine q_iload_n (pc := 9) hX 3 rfl rfl dX6_enter_9 ?_
  refine q_bipush (pc := 10) hX (20) (by decide) dX6_enter_10 ?_
  obtain ⟨r2, hr2, hE⟩ := ob_bind hE
  have hkr2 : r2.1 = 0 := by
    by_cases h9 : r2.1 = 0
    · exact h9
    · rw [if_pos h9] at hE
      exact congrArg Prod.fst (Option.some.inj hE)
  rw [if_neg (fun h => h hkr2)] at hE
  refine q_callS (pc := 12) (As := [.ref (o (r1.2 + 3)), .int x2, .int x3, .int 20]) (rest := []) (rv := some (.int r2.2.1)) (st' := [.int r2.2.1]) hX (c_X6_addByHand (tb_e3 hemr1) (thr_z hr2 hkr2)) (sl_X6_112) pd_yX6_addByHand rfl ⟨by decide, by decide⟩ ⟨Nat.le_of_ble_eq_true rfl, Nat.le_of_ble_eq_true rfl⟩ rfl (Nat.le_of_ble_eq_true rfl) rfl dX6_enter_12 ?_
  cases hE
  exact q_iret hX hR (by decide) (by decide) dX6_enter_15

set_option maxHeartbeats 4000000 in
theorem c_X6_enterBreak {Y : Lx} {o : Nat → Nat} {hn : Nat} {M : Mem} {G : Mel} {x1 : Int32} {x2 : Int32} {x3 : Int32} {rr : Int32} {Mr : Mem} (hE : s_X6_enterBreak M hn x1 x2 x3 = some (0, rr, Mr)) : MI Y yX6_enterBreak cX6_enterBreak 4 (some .int) 3 70 0 0 [.ref (o 28), .int x1, .int x2, .int x3] o hn M G (.inl (some (.int rr))) Mr G := by
  refine MI.of (by decide +kernel) (Nat.le_of_ble_eq_true rfl) (fun X hY hX hE0 hR => ?_)
  change CxOK X RX6 cX6_enterBreak 4 3 70 0 0 (some .int) at hX
  show WM X o hn M G 0 0 0 4 [(0, .ref (o 28)), (1, .int x1), (2, .int x2), (3, .int x3)] []
  unfold s_X6_enterBreak at hE
  refine q_aload_n (pc := 0) hX 0 rfl rfl dX6_enterBreak_0 ?_
  refine q_iload_n (pc := 1) hX 1 rfl rfl dX6_enterBreak_1 ?_
  obtain ⟨r1, hr1, hE⟩ := ob_bind hE
  have hkr1 : r1.1 = 0 := by
    by_cases h9 : r1.1 = 0
    · exact h9
    · rw [if_pos h9] at hE
      exact congrArg Prod.fst (Option.some.inj hE)
  rw [if_neg (fun h => h hkr1)] at hE
  refine q_callV (pc := 2) (id := 28) (As := [.int x1]) (rest := []) (rv := some (.ref (o r1.2))) (st' := [.ref (o r1.2)]) hX (c_X6_find (thr_z hr1 hkr1)) (vl_X6_60) (lt46 (by decide)) rfl rfl rfl pd_yX6_find rfl ⟨by decide, by decide⟩ ⟨Nat.le_of_ble_eq_true rfl, Nat.le_of_ble_eq_true rfl⟩ rfl (Nat.le_of_ble_eq_true rfl) rfl dX6_enterBreak_2 ?_
  have hemr1 := find_em hr1 hkr1
  refine q_get (pc := 5) (id := r1.2) (ci := 0) (N := 6) (T := TX0) (C := RX0) hX 5 (em_lt hemr1) (ob_E hemr1 _ _) rfl in_X0 (by decide) (Or.inr ⟨_, fn_X6_119⟩) rfl dX6_enterBreak_5 ?_
  refine q_iload_n (pc := 8) hX 2 rfl rfl dX6_enterBreak_8 ?_
  refine q_iload_n (pc := 9) hX 3 rfl rfl dX6_enterBreak_9 ?_
  refine q_bipush (pc := 10) hX (20) (by decide) dX6_enterBreak_10 ?_
  obtain ⟨r2, hr2, hE⟩ := ob_bind hE
  have hkr2 : r2.1 = 0 := by
    by_cases h9 : r2.1 = 0
    · exact h9
    · rw [if_pos h9] at hE
      exact congrArg Prod.fst (Option.some.inj hE)
  rw [if_neg (fun h => h hkr2)] at hE
  refine q_callS (pc := 12) (As := [.ref (o (r1.2 + 5)), .int x2, .int x3, .int 20]) (rest := []) (rv := some (.int r2.2.1)) (st' := [.int r2.2.1]) hX (c_X6_addByHand (tb_e5 hemr1) (thr_z hr2 hkr2)) (sl_X6_112) pd_yX6_addByHand rfl ⟨by decide, by decide⟩ ⟨Nat.le_of_ble_eq_true rfl, Nat.le_of_ble_eq_true rfl⟩ rfl (Nat.le_of_ble_eq_true rfl) rfl dX6_enterBreak_12 ?_
  cases hE
  exact q_iret hX hR (by decide) (by decide) dX6_enterBreak_15

set_option maxHeartbeats 4000000 in
theorem c_X6_minutes {Y : Lx} {o : Nat → Nat} {hn : Nat} {M : Mem} {G : Mel} {x1 : Int32} {x2 : Int32} {x3 : Int32} {rr : Int32} {Mr : Mem} (hE : s_X6_minutes M hn x1 x2 x3 = some (0, rr, Mr)) : MI Y yX6_minutes cX6_minutes 5 (some .int) 6 140 0 0 [.ref (o 28), .int x1, .int x2, .int x3] o hn M G (.inl (some (.int rr))) Mr G := by
  refine MI.of (by decide +kernel) (Nat.le_of_ble_eq_true rfl) (fun X hY hX hE0 hR => ?_)
  change CxOK X RX6 cX6_minutes 5 6 140 0 0 (some .int) at hX
  show WM X o hn M G 0 0 0 5 [(0, .ref (o 28)), (1, .int x1), (2, .int x2), (3, .int x3)] []
  unfold s_X6_minutes at hE
  refine q_aload_n (pc := 0) hX 0 rfl rfl dX6_minutes_0 ?_
  refine q_iload_n (pc := 1) hX 1 rfl rfl dX6_minutes_1 ?_
  obtain ⟨r1, hr1, hE⟩ := ob_bind hE
  have hkr1 : r1.1 = 0 := by
    by_cases h9 : r1.1 = 0
    · exact h9
    · rw [if_pos h9] at hE
      exact congrArg Prod.fst (Option.some.inj hE)
  rw [if_neg (fun h => h hkr1)] at hE
  refine q_callV (pc := 2) (id := 28) (As := [.int x1]) (rest := []) (rv := some (.ref (o r1.2))) (st' := [.ref (o r1.2)]) hX (c_X6_find (thr_z hr1 hkr1)) (vl_X6_60) (lt46 (by decide)) rfl rfl rfl pd_yX6_find rfl ⟨by decide, by decide⟩ ⟨Nat.le_of_ble_eq_true rfl, Nat.le_of_ble_eq_true rfl⟩ rfl (Nat.le_of_ble_eq_true rfl) rfl dX6_minutes_2 ?_
  have hemr1 := find_em hr1 hkr1
  refine q_astore (pc := 5) (lo' := [(0, .ref (o 28)), (1, .int x1), (2, .int x2), (3, .int x3), (4, .ref (o r1.2))]) hX [1, 2, 3, 4, 0] (by decide) rfl dX6_minutes_5 ?_
  refine q_iload_n (pc := 7) hX 2 rfl rfl dX6_minutes_7 ?_
  refine q_iconst (pc := 8) hX (0) rfl dX6_minutes_8 ?_
  refine q_bipush (pc := 9) hX (6) (by decide) dX6_minutes_9 ?_
  obtain ⟨r2, hr2, hE⟩ := ob_bind hE
  have hkr2 : r2 = 0 := by
    by_cases h9 : r2 = 0
    · exact h9
    · rw [if_pos h9] at hE
      exact congrArg Prod.fst (Option.some.inj hE)
  rw [if_neg (fun h => h hkr2)] at hE
  refine q_callS (pc := 11) (As := [.int x2, .int 0, .int 6]) (rest := []) (rv := none) (st' := []) hX (c_X6_requireWithin (thr_y hr2 hkr2)) (sl_X6_46) pd_yX6_requireWithin rfl ⟨by decide, by decide⟩ ⟨Nat.le_of_ble_eq_true rfl, Nat.le_of_ble_eq_true rfl⟩ rfl (Nat.le_of_ble_eq_true rfl) rfl dX6_minutes_11 ?_
  refine q_iload_n (pc := 14) hX 3 rfl rfl dX6_minutes_14 ?_
  refine q_iconst (pc := 15) hX (0) rfl dX6_minutes_15 ?_
  refine q_iconst (pc := 16) hX (2) rfl dX6_minutes_16 ?_
  obtain ⟨r3, hr3, hE⟩ := ob_bind hE
  have hkr3 : r3 = 0 := by
    by_cases h9 : r3 = 0
    · exact h9
    · rw [if_pos h9] at hE
      exact congrArg Prod.fst (Option.some.inj hE)
  rw [if_neg (fun h => h hkr3)] at hE
  refine q_callS (pc := 17) (As := [.int x3, .int 0, .int 2]) (rest := []) (rv := none) (st' := []) hX (c_X6_requireWithin (thr_y hr3 hkr3)) (sl_X6_46) pd_yX6_requireWithin rfl ⟨by decide, by decide⟩ ⟨Nat.le_of_ble_eq_true rfl, Nat.le_of_ble_eq_true rfl⟩ rfl (Nat.le_of_ble_eq_true rfl) rfl dX6_minutes_17 ?_
  refine q_aload_n (pc := 20) hX 0 rfl rfl dX6_minutes_20 ?_
  refine q_get (pc := 21) (id := 28) (ci := 6) (N := 6) (T := TX6) (C := RX6) hX 3 (lt46 (by decide)) rfl rfl in_X6 (by decide) (Or.inl kw_20) rfl dX6_minutes_21 ?_
  refine q_aload (pc := 24) hX 4 rfl dX6_minutes_24 ?_
  obtain ⟨r4, hr4, hE⟩ := ob_bind hE
  refine q_callV (pc := 26) (id := 33) (As := [.ref (o r1.2)]) (rest := []) (rv := none) (st' := []) hX (c_X1_read hemr1 hr4) (vl_X6_131) (lt46 (by decide)) rfl rfl rfl pd_yX1_read rfl ⟨by decide, by decide⟩ ⟨Nat.le_of_ble_eq_true rfl, Nat.le_of_ble_eq_true rfl⟩ rfl (Nat.le_of_ble_eq_true rfl) rfl dX6_minutes_26 ?_
  refine q_aload_n (pc := 29) hX 0 rfl rfl dX6_minutes_29 ?_
  refine q_get (pc := 30) (id := 28) (ci := 6) (N := 6) (T := TX6) (C := RX6) hX 3 (lt46 (by decide)) rfl rfl in_X6 (by decide) (Or.inl kw_20) rfl dX6_minutes_30 ?_
  refine q_iload_n (pc := 33) hX 2 rfl rfl dX6_minutes_33 ?_
  refine q_iload_n (pc := 34) hX 3 rfl rfl dX6_minutes_34 ?_
  obtain ⟨r5, hr5, hE⟩ := ob_bind hE
  refine q_callV (pc := 35) (id := 33) (As := [.int x2, .int x3]) (rest := []) (rv := some (.int r5)) (st' := [.int r5]) hX (c_X1_minutesOf hr5) (vl_X6_189) (lt46 (by decide)) rfl rfl rfl pd_yX1_minutesOf rfl ⟨by decide, by decide⟩ ⟨Nat.le_of_ble_eq_true rfl, Nat.le_of_ble_eq_true rfl⟩ rfl (Nat.le_of_ble_eq_true rfl) rfl dX6_minutes_35 ?_
  cases hE
  exact q_iret hX hR (by decide) (by decide) dX6_minutes_38

set_option maxHeartbeats 4000000 in
theorem c_X6_quarters {Y : Lx} {o : Nat → Nat} {hn : Nat} {M : Mem} {G : Mel} {x1 : Int32} {x2 : Int32} {x3 : Int32} {rr : Int32} {Mr : Mem} (hE : s_X6_quarters M hn x1 x2 x3 = some (0, rr, Mr)) : MI Y yX6_quarters cX6_quarters 5 (some .int) 6 140 0 0 [.ref (o 28), .int x1, .int x2, .int x3] o hn M G (.inl (some (.int rr))) Mr G := by
  refine MI.of (by decide +kernel) (Nat.le_of_ble_eq_true rfl) (fun X hY hX hE0 hR => ?_)
  change CxOK X RX6 cX6_quarters 5 6 140 0 0 (some .int) at hX
  show WM X o hn M G 0 0 0 5 [(0, .ref (o 28)), (1, .int x1), (2, .int x2), (3, .int x3)] []
  unfold s_X6_quarters at hE
  refine q_aload_n (pc := 0) hX 0 rfl rfl dX6_quarters_0 ?_
  refine q_iload_n (pc := 1) hX 1 rfl rfl dX6_quarters_1 ?_
  obtain ⟨r1, hr1, hE⟩ := ob_bind hE
  have hkr1 : r1.1 = 0 := by
    by_cases h9 : r1.1 = 0
    · exact h9
    · rw [if_pos h9] at hE
      exact congrArg Prod.fst (Option.some.inj hE)
  rw [if_neg (fun h => h hkr1)] at hE
  refine q_callV (pc := 2) (id := 28) (As := [.int x1]) (rest := []) (rv := some (.ref (o r1.2))) (st' := [.ref (o r1.2)]) hX (c_X6_find (thr_z hr1 hkr1)) (vl_X6_60) (lt46 (by decide)) rfl rfl rfl pd_yX6_find rfl ⟨by decide, by decide⟩ ⟨Nat.le_of_ble_eq_true rfl, Nat.le_of_ble_eq_true rfl⟩ rfl (Nat.le_of_ble_eq_true rfl) rfl dX6_quarters_2 ?_
  have hemr1 := find_em hr1 hkr1
  refine q_astore (pc := 5) (lo' := [(0, .ref (o 28)), (1, .int x1), (2, .int x2), (3, .int x3), (4, .ref (o r1.2))]) hX [1, 2, 3, 4, 0] (by decide) rfl dX6_quarters_5 ?_
  refine q_iload_n (pc := 7) hX 2 rfl rfl dX6_quarters_7 ?_
  refine q_iconst (pc := 8) hX (0) rfl dX6_quarters_8 ?_
  refine q_bipush (pc := 9) hX (6) (by decide) dX6_quarters_9 ?_
  obtain ⟨r2, hr2, hE⟩ := ob_bind hE
  have hkr2 : r2 = 0 := by
    by_cases h9 : r2 = 0
    · exact h9
    · rw [if_pos h9] at hE
      exact congrArg Prod.fst (Option.some.inj hE)
  rw [if_neg (fun h => h hkr2)] at hE
  refine q_callS (pc := 11) (As := [.int x2, .int 0, .int 6]) (rest := []) (rv := none) (st' := []) hX (c_X6_requireWithin (thr_y hr2 hkr2)) (sl_X6_46) pd_yX6_requireWithin rfl ⟨by decide, by decide⟩ ⟨Nat.le_of_ble_eq_true rfl, Nat.le_of_ble_eq_true rfl⟩ rfl (Nat.le_of_ble_eq_true rfl) rfl dX6_quarters_11 ?_
  refine q_iload_n (pc := 14) hX 3 rfl rfl dX6_quarters_14 ?_
  refine q_iconst (pc := 15) hX (0) rfl dX6_quarters_15 ?_
  refine q_iconst (pc := 16) hX (2) rfl dX6_quarters_16 ?_
  obtain ⟨r3, hr3, hE⟩ := ob_bind hE
  have hkr3 : r3 = 0 := by
    by_cases h9 : r3 = 0
    · exact h9
    · rw [if_pos h9] at hE
      exact congrArg Prod.fst (Option.some.inj hE)
  rw [if_neg (fun h => h hkr3)] at hE
  refine q_callS (pc := 17) (As := [.int x3, .int 0, .int 2]) (rest := []) (rv := none) (st' := []) hX (c_X6_requireWithin (thr_y hr3 hkr3)) (sl_X6_46) pd_yX6_requireWithin rfl ⟨by decide, by decide⟩ ⟨Nat.le_of_ble_eq_true rfl, Nat.le_of_ble_eq_true rfl⟩ rfl (Nat.le_of_ble_eq_true rfl) rfl dX6_quarters_17 ?_
  refine q_aload_n (pc := 20) hX 0 rfl rfl dX6_quarters_20 ?_
  refine q_get (pc := 21) (id := 28) (ci := 6) (N := 6) (T := TX6) (C := RX6) hX 3 (lt46 (by decide)) rfl rfl in_X6 (by decide) (Or.inl kw_20) rfl dX6_quarters_21 ?_
  refine q_aload (pc := 24) hX 4 rfl dX6_quarters_24 ?_
  obtain ⟨r4, hr4, hE⟩ := ob_bind hE
  refine q_callV (pc := 26) (id := 33) (As := [.ref (o r1.2)]) (rest := []) (rv := none) (st' := []) hX (c_X1_read hemr1 hr4) (vl_X6_131) (lt46 (by decide)) rfl rfl rfl pd_yX1_read rfl ⟨by decide, by decide⟩ ⟨Nat.le_of_ble_eq_true rfl, Nat.le_of_ble_eq_true rfl⟩ rfl (Nat.le_of_ble_eq_true rfl) rfl dX6_quarters_26 ?_
  refine q_aload_n (pc := 29) hX 0 rfl rfl dX6_quarters_29 ?_
  refine q_get (pc := 30) (id := 28) (ci := 6) (N := 6) (T := TX6) (C := RX6) hX 3 (lt46 (by decide)) rfl rfl in_X6 (by decide) (Or.inl kw_20) rfl dX6_quarters_30 ?_
  refine q_iload_n (pc := 33) hX 2 rfl rfl dX6_quarters_33 ?_
  refine q_iload_n (pc := 34) hX 3 rfl rfl dX6_quarters_34 ?_
  obtain ⟨r5, hr5, hE⟩ := ob_bind hE
  refine q_callV (pc := 35) (id := 33) (As := [.int x2, .int x3]) (rest := []) (rv := some (.int r5)) (st' := [.int r5]) hX (c_X1_quartersOf hr5) (vl_X6_192) (lt46 (by decide)) rfl rfl rfl pd_yX1_quartersOf rfl ⟨by decide, by decide⟩ ⟨Nat.le_of_ble_eq_true rfl, Nat.le_of_ble_eq_true rfl⟩ rfl (Nat.le_of_ble_eq_true rfl) rfl dX6_quarters_35 ?_
  cases hE
  exact q_iret hX hR (by decide) (by decide) dX6_quarters_38

set_option maxHeartbeats 4000000 in
theorem c_X6_premiumPay {Y : Lx} {o : Nat → Nat} {hn : Nat} {M : Mem} {G : Mel} {x1 : Int32} {rr : Int32} {Mr : Mem} (hE : s_X6_premiumPay M hn x1 = some (0, rr, Mr)) : MI Y yX6_premiumPay cX6_premiumPay 2 (some .int) 6 140 0 0 [.ref (o 28), .int x1] o hn M G (.inl (some (.int rr))) Mr G := by
  refine MI.of (by decide +kernel) (Nat.le_of_ble_eq_true rfl) (fun X hY hX hE0 hR => ?_)
  change CxOK X RX6 cX6_premiumPay 2 6 140 0 0 (some .int) at hX
  show WM X o hn M G 0 0 0 2 [(0, .ref (o 28)), (1, .int x1)] []
  unfold s_X6_premiumPay at hE
  refine q_aload_n (pc := 0) hX 0 rfl rfl dX6_premiumPay_0 ?_
  refine q_get (pc := 1) (id := 28) (ci := 6) (N := 6) (T := TX6) (C := RX6) hX 3 (lt46 (by decide)) rfl rfl in_X6 (by decide) (Or.inl kw_20) rfl dX6_premiumPay_1 ?_
  refine q_aload_n (pc := 4) hX 0 rfl rfl dX6_premiumPay_4 ?_
  refine q_iload_n (pc := 5) hX 1 rfl rfl dX6_premiumPay_5 ?_
  obtain ⟨r1, hr1, hE⟩ := ob_bind hE
  have hkr1 : r1.1 = 0 := by
    by_cases h9 : r1.1 = 0
    · exact h9
    · rw [if_pos h9] at hE
      exact congrArg Prod.fst (Option.some.inj hE)
  rw [if_neg (fun h => h hkr1)] at hE
  refine q_callV (pc := 6) (id := 28) (As := [.int x1]) (rest := [.ref (o 33)]) (rv := some (.ref (o r1.2))) (st' := [.ref (o r1.2), .ref (o 33)]) hX (c_X6_find (thr_z hr1 hkr1)) (vl_X6_60) (lt46 (by decide)) rfl rfl rfl pd_yX6_find rfl ⟨by decide, by decide⟩ ⟨Nat.le_of_ble_eq_true rfl, Nat.le_of_ble_eq_true rfl⟩ rfl (Nat.le_of_ble_eq_true rfl) rfl dX6_premiumPay_6 ?_
  have hemr1 := find_em hr1 hkr1
  obtain ⟨r2, hr2, hE⟩ := ob_bind hE
  refine q_callV (pc := 9) (id := 33) (As := [.ref (o r1.2)]) (rest := []) (rv := none) (st' := []) hX (c_X1_read hemr1 hr2) (vl_X6_131) (lt46 (by decide)) rfl rfl rfl pd_yX1_read rfl ⟨by decide, by decide⟩ ⟨Nat.le_of_ble_eq_true rfl, Nat.le_of_ble_eq_true rfl⟩ rfl (Nat.le_of_ble_eq_true rfl) rfl dX6_premiumPay_9 ?_
  refine q_aload_n (pc := 12) hX 0 rfl rfl dX6_premiumPay_12 ?_
  refine q_get (pc := 13) (id := 28) (ci := 6) (N := 6) (T := TX6) (C := RX6) hX 2 (lt46 (by decide)) rfl rfl in_X6 (by decide) (Or.inl kw_16) rfl dX6_premiumPay_13 ?_
  refine q_aload_n (pc := 16) hX 0 rfl rfl dX6_premiumPay_16 ?_
  refine q_get (pc := 17) (id := 28) (ci := 6) (N := 6) (T := TX6) (C := RX6) hX 3 (lt46 (by decide)) rfl rfl in_X6 (by decide) (Or.inl kw_20) rfl dX6_premiumPay_17 ?_
  refine q_get (pc := 20) (id := 33) (ci := 1) (N := 3) (T := TX1) (C := RX1) hX 2 (lt46 (by decide)) rfl rfl in_X1 (by decide) (Or.inr ⟨_, fn_X6_139⟩) rfl dX6_premiumPay_20 ?_
  obtain ⟨r3, hr3, hE⟩ := ob_bind hE
  refine q_callV (pc := 23) (id := 30) (As := [.ref (o 36)]) (rest := []) (rv := some (.int r3)) (st' := [.int r3]) hX (c_X2_payFor (tb_36 hn) hr3) (vl_X6_142) (lt46 (by decide)) rfl rfl rfl pd_yX2_payFor rfl ⟨by decide, by decide⟩ ⟨Nat.le_of_ble_eq_true rfl, Nat.le_of_ble_eq_true rfl⟩ rfl (Nat.le_of_ble_eq_true rfl) rfl dX6_premiumPay_23 ?_
  cases hE
  exact q_iret hX hR (by decide) (by decide) dX6_premiumPay_26

set_option maxHeartbeats 4000000 in
theorem c_X6_pay {Y : Lx} {o : Nat → Nat} {hn : Nat} {M : Mem} {G : Mel} {x1 : Int32} {rr : Int32} {Mr : Mem} (hE : s_X6_pay M hn x1 = some (0, rr, Mr)) : MI Y yX6_pay cX6_pay 3 (some .int) 6 140 0 0 [.ref (o 28), .int x1] o hn M G (.inl (some (.int rr))) Mr G := by
  refine MI.of (by decide +kernel) (Nat.le_of_ble_eq_true rfl) (fun X hY hX hE0 hR => ?_)
  change CxOK X RX6 cX6_pay 3 6 140 0 0 (some .int) at hX
  show WM X o hn M G 0 0 0 3 [(0, .ref (o 28)), (1, .int x1)] []
  unfold s_X6_pay at hE
  refine q_aload_n (pc := 0) hX 0 rfl rfl dX6_pay_0 ?_
  refine q_iload_n (pc := 1) hX 1 rfl rfl dX6_pay_1 ?_
  obtain ⟨r1, hr1, hE⟩ := ob_bind hE
  have hkr1 : r1.1 = 0 := by
    by_cases h9 : r1.1 = 0
    · exact h9
    · rw [if_pos h9] at hE
      exact congrArg Prod.fst (Option.some.inj hE)
  rw [if_neg (fun h => h hkr1)] at hE
  refine q_callV (pc := 2) (id := 28) (As := [.int x1]) (rest := []) (rv := some (.ref (o r1.2))) (st' := [.ref (o r1.2)]) hX (c_X6_find (thr_z hr1 hkr1)) (vl_X6_60) (lt46 (by decide)) rfl rfl rfl pd_yX6_find rfl ⟨by decide, by decide⟩ ⟨Nat.le_of_ble_eq_true rfl, Nat.le_of_ble_eq_true rfl⟩ rfl (Nat.le_of_ble_eq_true rfl) rfl dX6_pay_2 ?_
  have hemr1 := find_em hr1 hkr1
  refine q_astore_n (pc := 5) (lo' := [(0, .ref (o 28)), (1, .int x1), (2, .ref (o r1.2))]) hX [1, 2, 0] rfl (by decide) rfl dX6_pay_5 ?_
  refine q_aload_n (pc := 6) hX 0 rfl rfl dX6_pay_6 ?_
  refine q_get (pc := 7) (id := 28) (ci := 6) (N := 6) (T := TX6) (C := RX6) hX 3 (lt46 (by decide)) rfl rfl in_X6 (by decide) (Or.inl kw_20) rfl dX6_pay_7 ?_
  refine q_aload_n (pc := 10) hX 2 rfl rfl dX6_pay_10 ?_
  obtain ⟨r2, hr2, hE⟩ := ob_bind hE
  refine q_callV (pc := 11) (id := 33) (As := [.ref (o r1.2)]) (rest := []) (rv := none) (st' := []) hX (c_X1_read hemr1 hr2) (vl_X6_131) (lt46 (by decide)) rfl rfl rfl pd_yX1_read rfl ⟨by decide, by decide⟩ ⟨Nat.le_of_ble_eq_true rfl, Nat.le_of_ble_eq_true rfl⟩ rfl (Nat.le_of_ble_eq_true rfl) rfl dX6_pay_11 ?_
  refine q_aload_n (pc := 14) hX 0 rfl rfl dX6_pay_14 ?_
  refine q_get (pc := 15) (id := 28) (ci := 6) (N := 6) (T := TX6) (C := RX6) hX 3 (lt46 (by decide)) rfl rfl in_X6 (by decide) (Or.inl kw_20) rfl dX6_pay_15 ?_
  refine q_aload_n (pc := 18) hX 2 rfl rfl dX6_pay_18 ?_
  refine q_get (pc := 19) (id := r1.2) (ci := 0) (N := 6) (T := TX0) (C := RX0) hX 0 (em_lt hemr1) (ob_E hemr1 _ _) rfl in_X0 (by decide) (Or.inr ⟨_, fn_X6_64⟩) rfl dX6_pay_19 ?_
  obtain ⟨r3, hr3, hE⟩ := ob_bind hE
  refine q_callV (pc := 22) (id := 33) (As := [.int (r2 r1.2 0)]) (rest := []) (rv := some (.int r3)) (st' := [.int r3]) hX (c_X1_basicPay hr3) (vl_X6_135) (lt46 (by decide)) rfl rfl rfl pd_yX1_basicPay rfl ⟨by decide, by decide⟩ ⟨Nat.le_of_ble_eq_true rfl, Nat.le_of_ble_eq_true rfl⟩ rfl (Nat.le_of_ble_eq_true rfl) rfl dX6_pay_22 ?_
  refine q_aload_n (pc := 25) hX 0 rfl rfl dX6_pay_25 ?_
  refine q_get (pc := 26) (id := 28) (ci := 6) (N := 6) (T := TX6) (C := RX6) hX 2 (lt46 (by decide)) rfl rfl in_X6 (by decide) (Or.inl kw_16) rfl dX6_pay_26 ?_
  refine q_aload_n (pc := 29) hX 0 rfl rfl dX6_pay_29 ?_
  refine q_get (pc := 30) (id := 28) (ci := 6) (N := 6) (T := TX6) (C := RX6) hX 3 (lt46 (by decide)) rfl rfl in_X6 (by decide) (Or.inl kw_20) rfl dX6_pay_30 ?_
  refine q_get (pc := 33) (id := 33) (ci := 1) (N := 3) (T := TX1) (C := RX1) hX 2 (lt46 (by decide)) rfl rfl in_X1 (by decide) (Or.inr ⟨_, fn_X6_139⟩) rfl dX6_pay_33 ?_
  obtain ⟨r4, hr4, hE⟩ := ob_bind hE
  refine q_callV (pc := 36) (id := 30) (As := [.ref (o 36)]) (rest := [.int r3]) (rv := some (.int r4)) (st' := [.int r4, .int r3]) hX (c_X2_payFor (tb_36 hn) hr4) (vl_X6_142) (lt46 (by decide)) rfl rfl rfl pd_yX2_payFor rfl ⟨by decide, by decide⟩ ⟨Nat.le_of_ble_eq_true rfl, Nat.le_of_ble_eq_true rfl⟩ rfl (Nat.le_of_ble_eq_true rfl) rfl dX6_pay_36 ?_
  refine q_iadd (pc := 39) hX dX6_pay_39 ?_
  cases hE
  exact q_iret hX hR (by decide) (by decide) dX6_pay_40

set_option maxHeartbeats 4000000 in
theorem c_X6_workedOn {Y : Lx} {o : Nat → Nat} {hn : Nat} {M : Mem} {G : Mel} {x1 : Int32} {x2 : Int32} {rr : Int32} {Mr : Mem} (hE : s_X6_workedOn M hn x1 x2 = some (0, rr, Mr)) : MI Y yX6_workedOn cX6_workedOn 4 (some .int) 5 116 0 0 [.ref (o 28), .int x1, .int x2] o hn M G (.inl (some (.int rr))) Mr G := by
  refine MI.of (by decide +kernel) (Nat.le_of_ble_eq_true rfl) (fun X hY hX hE0 hR => ?_)
  change CxOK X RX6 cX6_workedOn 4 5 116 0 0 (some .int) at hX
  show WM X o hn M G 0 0 0 4 [(0, .ref (o 28)), (1, .int x1), (2, .int x2)] []
  unfold s_X6_workedOn at hE
  refine q_aload_n (pc := 0) hX 0 rfl rfl dX6_workedOn_0 ?_
  refine q_iload_n (pc := 1) hX 1 rfl rfl dX6_workedOn_1 ?_
  obtain ⟨r1, hr1, hE⟩ := ob_bind hE
  have hkr1 : r1.1 = 0 := by
    by_cases h9 : r1.1 = 0
    · exact h9
    · rw [if_pos h9] at hE
      exact congrArg Prod.fst (Option.some.inj hE)
  rw [if_neg (fun h => h hkr1)] at hE
  refine q_callV (pc := 2) (id := 28) (As := [.int x1]) (rest := []) (rv := some (.ref (o r1.2))) (st' := [.ref (o r1.2)]) hX (c_X6_find (thr_z hr1 hkr1)) (vl_X6_60) (lt46 (by decide)) rfl rfl rfl pd_yX6_find rfl ⟨by decide, by decide⟩ ⟨Nat.le_of_ble_eq_true rfl, Nat.le_of_ble_eq_true rfl⟩ rfl (Nat.le_of_ble_eq_true rfl) rfl dX6_workedOn_2 ?_
  have hemr1 := find_em hr1 hkr1
  refine q_astore_n (pc := 5) (lo' := [(0, .ref (o 28)), (1, .int x1), (2, .int x2), (3, .ref (o r1.2))]) hX [1, 2, 3, 0] rfl (by decide) rfl dX6_workedOn_5 ?_
  refine q_iload_n (pc := 6) hX 2 rfl rfl dX6_workedOn_6 ?_
  refine q_iconst (pc := 7) hX (0) rfl dX6_workedOn_7 ?_
  refine q_bipush (pc := 8) hX (6) (by decide) dX6_workedOn_8 ?_
  obtain ⟨r2, hr2, hE⟩ := ob_bind hE
  have hkr2 : r2 = 0 := by
    by_cases h9 : r2 = 0
    · exact h9
    · rw [if_pos h9] at hE
      exact congrArg Prod.fst (Option.some.inj hE)
  rw [if_neg (fun h => h hkr2)] at hE
  refine q_callS (pc := 10) (As := [.int x2, .int 0, .int 6]) (rest := []) (rv := none) (st' := []) hX (c_X6_requireWithin (thr_y hr2 hkr2)) (sl_X6_46) pd_yX6_requireWithin rfl ⟨by decide, by decide⟩ ⟨Nat.le_of_ble_eq_true rfl, Nat.le_of_ble_eq_true rfl⟩ rfl (Nat.le_of_ble_eq_true rfl) rfl dX6_workedOn_10 ?_
  refine q_aload_n (pc := 13) hX 0 rfl rfl dX6_workedOn_13 ?_
  refine q_get (pc := 14) (id := 28) (ci := 6) (N := 6) (T := TX6) (C := RX6) hX 4 (lt46 (by decide)) rfl rfl in_X6 (by decide) (Or.inl kw_21) rfl dX6_workedOn_14 ?_
  refine q_aload_n (pc := 17) hX 3 rfl rfl dX6_workedOn_17 ?_
  obtain ⟨r3, hr3, hE⟩ := ob_bind hE
  refine q_callV (pc := 18) (id := 38) (As := [.ref (o r1.2)]) (rest := []) (rv := none) (st' := []) hX (c_X5_read hemr1 hr3) (vl_X6_173) (lt46 (by decide)) rfl rfl rfl pd_yX5_read rfl ⟨by decide, by decide⟩ ⟨Nat.le_of_ble_eq_true rfl, Nat.le_of_ble_eq_true rfl⟩ rfl (Nat.le_of_ble_eq_true rfl) rfl dX6_workedOn_18 ?_
  refine q_aload_n (pc := 21) hX 0 rfl rfl dX6_workedOn_21 ?_
  refine q_get (pc := 22) (id := 28) (ci := 6) (N := 6) (T := TX6) (C := RX6) hX 4 (lt46 (by decide)) rfl rfl in_X6 (by decide) (Or.inl kw_21) rfl dX6_workedOn_22 ?_
  refine q_get (pc := 25) (id := 38) (ci := 5) (N := 4) (T := TX5) (C := RX5) hX 2 (lt46 (by decide)) rfl rfl in_X5 (by decide) (Or.inr ⟨_, fn_X6_177⟩) rfl dX6_workedOn_25 ?_
  refine q_iload_n (pc := 28) hX 2 rfl rfl dX6_workedOn_28 ?_
  obtain ⟨r4, hr4, hE⟩ := ob_bind hE
  refine q_callS (pc := 29) (As := [.ref (o 41), .int x2]) (rest := []) (rv := some (.int r4)) (st' := [.int r4]) hX (c_X6_minutesOnDay (tb_41 hn) hr4) (sl_X6_180) pd_yX6_minutesOnDay rfl ⟨by decide, by decide⟩ ⟨Nat.le_of_ble_eq_true rfl, Nat.le_of_ble_eq_true rfl⟩ rfl (Nat.le_of_ble_eq_true rfl) rfl dX6_workedOn_29 ?_
  cases hE
  exact q_iret hX hR (by decide) (by decide) dX6_workedOn_32

set_option maxHeartbeats 4000000 in
theorem c_X6_closeWeek {Y : Lx} {o : Nat → Nat} {hn : Nat} {M : Mem} {G : Mel} {x1 : Int32} {rr : Int32} {Mr : Mem} {Gr : Mel} (hE : s_X6_closeWeek M G hn x1 = some (0, rr, Mr, Gr)) : MI Y yX6_closeWeek cX6_closeWeek 4 (some .int) 6 140 0 0 [.ref (o 28), .int x1] o hn M G (.inl (some (.int rr))) Mr Gr := by
  refine MI.of (by decide +kernel) (Nat.le_of_ble_eq_true rfl) (fun X hY hX hE0 hR => ?_)
  change CxOK X RX6 cX6_closeWeek 4 6 140 0 0 (some .int) at hX
  show WM X o hn M G 0 0 0 4 [(0, .ref (o 28)), (1, .int x1)] []
  unfold s_X6_closeWeek at hE
  refine q_aload_n (pc := 0) hX 0 rfl rfl dX6_closeWeek_0 ?_
  refine q_iload_n (pc := 1) hX 1 rfl rfl dX6_closeWeek_1 ?_
  obtain ⟨r1, hr1, hE⟩ := ob_bind hE
  have hkr1 : r1.1 = 0 := by
    by_cases h9 : r1.1 = 0
    · exact h9
    · rw [if_pos h9] at hE
      exact congrArg Prod.fst (Option.some.inj hE)
  rw [if_neg (fun h => h hkr1)] at hE
  refine q_callV (pc := 2) (id := 28) (As := [.int x1]) (rest := []) (rv := some (.ref (o r1.2))) (st' := [.ref (o r1.2)]) hX (c_X6_find (thr_z hr1 hkr1)) (vl_X6_60) (lt46 (by decide)) rfl rfl rfl pd_yX6_find rfl ⟨by decide, by decide⟩ ⟨Nat.le_of_ble_eq_true rfl, Nat.le_of_ble_eq_true rfl⟩ rfl (Nat.le_of_ble_eq_true rfl) rfl dX6_closeWeek_2 ?_
  have hemr1 := find_em hr1 hkr1
  refine q_astore_n (pc := 5) (lo' := [(0, .ref (o 28)), (1, .int x1), (2, .ref (o r1.2))]) hX [1, 2, 0] rfl (by decide) rfl dX6_closeWeek_5 ?_
  refine q_aload_n (pc := 6) hX 2 rfl rfl dX6_closeWeek_6 ?_
  refine q_get (pc := 7) (id := r1.2) (ci := 0) (N := 6) (T := TX0) (C := RX0) hX 3 (em_lt hemr1) (ob_E hemr1 _ _) rfl in_X0 (by decide) (Or.inr ⟨_, fn_X6_67⟩) rfl dX6_closeWeek_7 ?_
  obtain ⟨r2, hr2, hE⟩ := ob_bind hE
  refine q_callV (pc := 10) (id := (r1.2 + 1)) (As := []) (rest := []) (rv := some (.int r2)) (st' := [.int r2]) hX (c_X4_size (tb_e1 hemr1) hr2) (vl_X6_93) (tb_lt (tb_e1 hemr1)) (ob_T (tb_e1 hemr1).1 _ _) rfl rfl pd_yX4_size rfl ⟨by decide, by decide⟩ ⟨Nat.le_of_ble_eq_true rfl, Nat.le_of_ble_eq_true rfl⟩ rfl (Nat.le_of_ble_eq_true rfl) rfl dX6_closeWeek_10 ?_
  refine q_if_ne (pc := 13) hX 36 (by decide) dX6_closeWeek_13 (fun c => ?_) (fun c => ?_)
  · rw [if_neg c] at hE
    refine q_aload_n (pc := 36) hX 0 rfl rfl dX6_closeWeek_36 ?_
    refine q_get (pc := 37) (id := 28) (ci := 6) (N := 6) (T := TX6) (C := RX6) hX 3 (lt46 (by decide)) rfl rfl in_X6 (by decide) (Or.inl kw_20) rfl dX6_closeWeek_37 ?_
    refine q_aload_n (pc := 40) hX 2 rfl rfl dX6_closeWeek_40 ?_
    obtain ⟨r3, hr3, hE⟩ := ob_bind hE
    refine q_callV (pc := 41) (id := 33) (As := [.ref (o r1.2)]) (rest := []) (rv := none) (st' := []) hX (c_X1_read hemr1 hr3) (vl_X6_131) (lt46 (by decide)) rfl rfl rfl pd_yX1_read rfl ⟨by decide, by decide⟩ ⟨Nat.le_of_ble_eq_true rfl, Nat.le_of_ble_eq_true rfl⟩ rfl (Nat.le_of_ble_eq_true rfl) rfl dX6_closeWeek_41 ?_
    refine q_aload_n (pc := 44) hX 0 rfl rfl dX6_closeWeek_44 ?_
    refine q_get (pc := 45) (id := 28) (ci := 6) (N := 6) (T := TX6) (C := RX6) hX 3 (lt46 (by decide)) rfl rfl in_X6 (by decide) (Or.inl kw_20) rfl dX6_closeWeek_45 ?_
    refine q_aload_n (pc := 48) hX 2 rfl rfl dX6_closeWeek_48 ?_
    refine q_get (pc := 49) (id := r1.2) (ci := 0) (N := 6) (T := TX0) (C := RX0) hX 0 (em_lt hemr1) (ob_E hemr1 _ _) rfl in_X0 (by decide) (Or.inr ⟨_, fn_X6_64⟩) rfl dX6_closeWeek_49 ?_
    obtain ⟨r4, hr4, hE⟩ := ob_bind hE
    refine q_callV (pc := 52) (id := 33) (As := [.int (r3 r1.2 0)]) (rest := []) (rv := some (.int r4)) (st' := [.int r4]) hX (c_X1_basicPay hr4) (vl_X6_135) (lt46 (by decide)) rfl rfl rfl pd_yX1_basicPay rfl ⟨by decide, by decide⟩ ⟨Nat.le_of_ble_eq_true rfl, Nat.le_of_ble_eq_true rfl⟩ rfl (Nat.le_of_ble_eq_true rfl) rfl dX6_closeWeek_52 ?_
    refine q_aload_n (pc := 55) hX 0 rfl rfl dX6_closeWeek_55 ?_
    refine q_get (pc := 56) (id := 28) (ci := 6) (N := 6) (T := TX6) (C := RX6) hX 2 (lt46 (by decide)) rfl rfl in_X6 (by decide) (Or.inl kw_16) rfl dX6_closeWeek_56 ?_
    refine q_aload_n (pc := 59) hX 0 rfl rfl dX6_closeWeek_59 ?_
    refine q_get (pc := 60) (id := 28) (ci := 6) (N := 6) (T := TX6) (C := RX6) hX 3 (lt46 (by decide)) rfl rfl in_X6 (by decide) (Or.inl kw_20) rfl dX6_closeWeek_60 ?_
    refine q_get (pc := 63) (id := 33) (ci := 1) (N := 3) (T := TX1) (C := RX1) hX 2 (lt46 (by decide)) rfl rfl in_X1 (by decide) (Or.inr ⟨_, fn_X6_139⟩) rfl dX6_closeWeek_63 ?_
    obtain ⟨r5, hr5, hE⟩ := ob_bind hE
    refine q_callV (pc := 66) (id := 30) (As := [.ref (o 36)]) (rest := [.int r4]) (rv := some (.int r5)) (st' := [.int r5, .int r4]) hX (c_X2_payFor (tb_36 hn) hr5) (vl_X6_142) (lt46 (by decide)) rfl rfl rfl pd_yX2_payFor rfl ⟨by decide, by decide⟩ ⟨Nat.le_of_ble_eq_true rfl, Nat.le_of_ble_eq_true rfl⟩ rfl (Nat.le_of_ble_eq_true rfl) rfl dX6_closeWeek_66 ?_
    refine q_iadd (pc := 69) hX dX6_closeWeek_69 ?_
    refine q_nm (fun z6 hz6 => ?_)
    have hE := bnd_nm hz6 hE
    refine q_istore_n (pc := 70) (lo' := [(0, .ref (o 28)), (1, .int x1), (2, .ref (o r1.2)), (3, .int z6)]) hX [1, 2, 3, 0] rfl (by decide) rfl dX6_closeWeek_70 ?_
    refine q_aload_n (pc := 71) hX 2 rfl rfl dX6_closeWeek_71 ?_
    refine q_iload_n (pc := 72) hX 3 rfl rfl dX6_closeWeek_72 ?_
    obtain ⟨r7, hr7, hE⟩ := ob_bind hE
    refine q_callV (pc := 73) (id := r1.2) (As := [.int z6]) (rest := []) (rv := none) (st' := []) hX (c_X0_beginNextWeek hemr1 hr7) (vl_X6_146) (em_lt hemr1) (ob_E hemr1 _ _) rfl rfl pd_yX0_beginNextWeek rfl ⟨by decide, by decide⟩ ⟨Nat.le_of_ble_eq_true rfl, Nat.le_of_ble_eq_true rfl⟩ rfl (Nat.le_of_ble_eq_true rfl) rfl dX6_closeWeek_73 ?_
    refine q_iload_n (pc := 76) hX 3 rfl rfl dX6_closeWeek_76 ?_
    cases hE
    exact q_iret hX hR (by decide) (by decide) dX6_closeWeek_77
  · rw [if_pos c] at hE
    refine q_aload_n (pc := 16) hX 2 rfl rfl dX6_closeWeek_16 ?_
    refine q_get (pc := 17) (id := r1.2) (ci := 0) (N := 6) (T := TX0) (C := RX0) hX 4 (em_lt hemr1) (ob_E hemr1 _ _) rfl in_X0 (by decide) (Or.inr ⟨_, fn_X6_109⟩) rfl dX6_closeWeek_17 ?_
    obtain ⟨r8, hr8, hE⟩ := ob_bind hE
    refine q_callV (pc := 20) (id := (r1.2 + 3)) (As := []) (rest := []) (rv := some (.int r8)) (st' := [.int r8]) hX (c_X4_size (tb_e3 hemr1) hr8) (vl_X6_93) (tb_lt (tb_e3 hemr1)) (ob_T (tb_e3 hemr1).1 _ _) rfl rfl pd_yX4_size rfl ⟨by decide, by decide⟩ ⟨Nat.le_of_ble_eq_true rfl, Nat.le_of_ble_eq_true rfl⟩ rfl (Nat.le_of_ble_eq_true rfl) rfl dX6_closeWeek_20 ?_
    refine q_if_ne (pc := 23) hX 36 (by decide) dX6_closeWeek_23 (fun c => ?_) (fun c => ?_)
    · rw [if_neg c] at hE
      refine q_aload_n (pc := 36) hX 0 rfl rfl dX6_closeWeek_36 ?_
      refine q_get (pc := 37) (id := 28) (ci := 6) (N := 6) (T := TX6) (C := RX6) hX 3 (lt46 (by decide)) rfl rfl in_X6 (by decide) (Or.inl kw_20) rfl dX6_closeWeek_37 ?_
      refine q_aload_n (pc := 40) hX 2 rfl rfl dX6_closeWeek_40 ?_
      obtain ⟨r9, hr9, hE⟩ := ob_bind hE
      refine q_callV (pc := 41) (id := 33) (As := [.ref (o r1.2)]) (rest := []) (rv := none) (st' := []) hX (c_X1_read hemr1 hr9) (vl_X6_131) (lt46 (by decide)) rfl rfl rfl pd_yX1_read rfl ⟨by decide, by decide⟩ ⟨Nat.le_of_ble_eq_true rfl, Nat.le_of_ble_eq_true rfl⟩ rfl (Nat.le_of_ble_eq_true rfl) rfl dX6_closeWeek_41 ?_
      refine q_aload_n (pc := 44) hX 0 rfl rfl dX6_closeWeek_44 ?_
      refine q_get (pc := 45) (id := 28) (ci := 6) (N := 6) (T := TX6) (C := RX6) hX 3 (lt46 (by decide)) rfl rfl in_X6 (by decide) (Or.inl kw_20) rfl dX6_closeWeek_45 ?_
      refine q_aload_n (pc := 48) hX 2 rfl rfl dX6_closeWeek_48 ?_
      refine q_get (pc := 49) (id := r1.2) (ci := 0) (N := 6) (T := TX0) (C := RX0) hX 0 (em_lt hemr1) (ob_E hemr1 _ _) rfl in_X0 (by decide) (Or.inr ⟨_, fn_X6_64⟩) rfl dX6_closeWeek_49 ?_
      obtain ⟨r10, hr10, hE⟩ := ob_bind hE
      refine q_callV (pc := 52) (id := 33) (As := [.int (r9 r1.2 0)]) (rest := []) (rv := some (.int r10)) (st' := [.int r10]) hX (c_X1_basicPay hr10) (vl_X6_135) (lt46 (by decide)) rfl rfl rfl pd_yX1_basicPay rfl ⟨by decide, by decide⟩ ⟨Nat.le_of_ble_eq_true rfl, Nat.le_of_ble_eq_true rfl⟩ rfl (Nat.le_of_ble_eq_true rfl) rfl dX6_closeWeek_52 ?_
      refine q_aload_n (pc := 55) hX 0 rfl rfl dX6_closeWeek_55 ?_
      refine q_get (pc := 56) (id := 28) (ci := 6) (N := 6) (T := TX6) (C := RX6) hX 2 (lt46 (by decide)) rfl rfl in_X6 (by decide) (Or.inl kw_16) rfl dX6_closeWeek_56 ?_
      refine q_aload_n (pc := 59) hX 0 rfl rfl dX6_closeWeek_59 ?_
      refine q_get (pc := 60) (id := 28) (ci := 6) (N := 6) (T := TX6) (C := RX6) hX 3 (lt46 (by decide)) rfl rfl in_X6 (by decide) (Or.inl kw_20) rfl dX6_closeWeek_60 ?_
      refine q_get (pc := 63) (id := 33) (ci := 1) (N := 3) (T := TX1) (C := RX1) hX 2 (lt46 (by decide)) rfl rfl in_X1 (by decide) (Or.inr ⟨_, fn_X6_139⟩) rfl dX6_closeWeek_63 ?_
      obtain ⟨r11, hr11, hE⟩ := ob_bind hE
      refine q_callV (pc := 66) (id := 30) (As := [.ref (o 36)]) (rest := [.int r10]) (rv := some (.int r11)) (st' := [.int r11, .int r10]) hX (c_X2_payFor (tb_36 hn) hr11) (vl_X6_142) (lt46 (by decide)) rfl rfl rfl pd_yX2_payFor rfl ⟨by decide, by decide⟩ ⟨Nat.le_of_ble_eq_true rfl, Nat.le_of_ble_eq_true rfl⟩ rfl (Nat.le_of_ble_eq_true rfl) rfl dX6_closeWeek_66 ?_
      refine q_iadd (pc := 69) hX dX6_closeWeek_69 ?_
      refine q_nm (fun z12 hz12 => ?_)
      have hE := bnd_nm hz12 hE
      refine q_istore_n (pc := 70) (lo' := [(0, .ref (o 28)), (1, .int x1), (2, .ref (o r1.2)), (3, .int z12)]) hX [1, 2, 3, 0] rfl (by decide) rfl dX6_closeWeek_70 ?_
      refine q_aload_n (pc := 71) hX 2 rfl rfl dX6_closeWeek_71 ?_
      refine q_iload_n (pc := 72) hX 3 rfl rfl dX6_closeWeek_72 ?_
      obtain ⟨r13, hr13, hE⟩ := ob_bind hE
      refine q_callV (pc := 73) (id := r1.2) (As := [.int z12]) (rest := []) (rv := none) (st' := []) hX (c_X0_beginNextWeek hemr1 hr13) (vl_X6_146) (em_lt hemr1) (ob_E hemr1 _ _) rfl rfl pd_yX0_beginNextWeek rfl ⟨by decide, by decide⟩ ⟨Nat.le_of_ble_eq_true rfl, Nat.le_of_ble_eq_true rfl⟩ rfl (Nat.le_of_ble_eq_true rfl) rfl dX6_closeWeek_73 ?_
      refine q_iload_n (pc := 76) hX 3 rfl rfl dX6_closeWeek_76 ?_
      cases hE
      exact q_iret hX hR (by decide) (by decide) dX6_closeWeek_77
    · rw [if_pos c] at hE
      have h9 : (2 : Nat) = 0 := congrArg Prod.fst (Option.some.inj hE)
      exact absurd h9 (by decide)

set_option maxHeartbeats 4000000 in
theorem c_X6_earned {Y : Lx} {o : Nat → Nat} {hn : Nat} {M : Mem} {G : Mel} {x1 : Int32} {rr : Int64} (hE : s_X6_earned G hn x1 = some (0, rr)) : MI Y yX6_earned cX6_earned 2 (some .long) 1 22 0 0 [.ref (o 28), .int x1] o hn M G (.inl (some (.long rr))) M G := by
  refine MI.of (by decide +kernel) (Nat.le_of_ble_eq_true rfl) (fun X hY hX hE0 hR => ?_)
  change CxOK X RX6 cX6_earned 2 1 22 0 0 (some .long) at hX
  show WM X o hn M G 0 0 0 2 [(0, .ref (o 28)), (1, .int x1)] []
  unfold s_X6_earned at hE
  refine q_aload_n (pc := 0) hX 0 rfl rfl dX6_earned_0 ?_
  refine q_iload_n (pc := 1) hX 1 rfl rfl dX6_earned_1 ?_
  obtain ⟨r1, hr1, hE⟩ := ob_bind hE
  have hkr1 : r1.1 = 0 := by
    by_cases h9 : r1.1 = 0
    · exact h9
    · rw [if_pos h9] at hE
      exact congrArg Prod.fst (Option.some.inj hE)
  rw [if_neg (fun h => h hkr1)] at hE
  refine q_callV (pc := 2) (id := 28) (As := [.int x1]) (rest := []) (rv := some (.ref (o r1.2))) (st' := [.ref (o r1.2)]) hX (c_X6_find (thr_z hr1 hkr1)) (vl_X6_60) (lt46 (by decide)) rfl rfl rfl pd_yX6_find rfl ⟨by decide, by decide⟩ ⟨Nat.le_of_ble_eq_true rfl, Nat.le_of_ble_eq_true rfl⟩ rfl (Nat.le_of_ble_eq_true rfl) rfl dX6_earned_2 ?_
  have hemr1 := find_em hr1 hkr1
  refine q_get (pc := 5) (id := r1.2) (ci := 0) (N := 6) (T := TX0) (C := RX0) hX 2 (em_lt hemr1) (ob_E hemr1 _ _) rfl in_X0 (by decide) (Or.inr ⟨_, fn_X6_152⟩) rfl dX6_earned_5 ?_
  cases hE
  exact q_lret hX hR (by decide) (by decide) dX6_earned_8

set_option maxHeartbeats 4000000 in
theorem c_X6_closedWeeks {Y : Lx} {o : Nat → Nat} {hn : Nat} {M : Mem} {G : Mel} {x1 : Int32} {rr : Int32} (hE : s_X6_closedWeeks M hn x1 = some (0, rr)) : MI Y yX6_closedWeeks cX6_closedWeeks 2 (some .int) 1 22 0 0 [.ref (o 28), .int x1] o hn M G (.inl (some (.int rr))) M G := by
  refine MI.of (by decide +kernel) (Nat.le_of_ble_eq_true rfl) (fun X hY hX hE0 hR => ?_)
  change CxOK X RX6 cX6_closedWeeks 2 1 22 0 0 (some .int) at hX
  show WM X o hn M G 0 0 0 2 [(0, .ref (o 28)), (1, .int x1)] []
  unfold s_X6_closedWeeks at hE
  refine q_aload_n (pc := 0) hX 0 rfl rfl dX6_closedWeeks_0 ?_
  refine q_iload_n (pc := 1) hX 1 rfl rfl dX6_closedWeeks_1 ?_
  obtain ⟨r1, hr1, hE⟩ := ob_bind hE
  have hkr1 : r1.1 = 0 := by
    by_cases h9 : r1.1 = 0
    · exact h9
    · rw [if_pos h9] at hE
      exact congrArg Prod.fst (Option.some.inj hE)
  rw [if_neg (fun h => h hkr1)] at hE
  refine q_callV (pc := 2) (id := 28) (As := [.int x1]) (rest := []) (rv := some (.ref (o r1.2))) (st' := [.ref (o r1.2)]) hX (c_X6_find (thr_z hr1 hkr1)) (vl_X6_60) (lt46 (by decide)) rfl rfl rfl pd_yX6_find rfl ⟨by decide, by decide⟩ ⟨Nat.le_of_ble_eq_true rfl, Nat.le_of_ble_eq_true rfl⟩ rfl (Nat.le_of_ble_eq_true rfl) rfl dX6_closedWeeks_2 ?_
  have hemr1 := find_em hr1 hkr1
  refine q_get (pc := 5) (id := r1.2) (ci := 0) (N := 6) (T := TX0) (C := RX0) hX 1 (em_lt hemr1) (ob_E hemr1 _ _) rfl in_X0 (by decide) (Or.inr ⟨_, fn_X6_149⟩) rfl dX6_closedWeeks_5 ?_
  cases hE
  exact q_iret hX hR (by decide) (by decide) dX6_closedWeeks_8

set_option maxHeartbeats 4000000 in
theorem c_X6_shifts {Y : Lx} {o : Nat → Nat} {hn : Nat} {M : Mem} {G : Mel} {x1 : Int32} {rr : Int32} {Mr : Mem} (hE : s_X6_shifts M hn x1 = some (0, rr, Mr)) : MI Y yX6_shifts cX6_shifts 2 (some .int) 4 94 0 0 [.ref (o 28), .int x1] o hn M G (.inl (some (.int rr))) Mr G := by
  refine MI.of (by decide +kernel) (Nat.le_of_ble_eq_true rfl) (fun X hY hX hE0 hR => ?_)
  change CxOK X RX6 cX6_shifts 2 4 94 0 0 (some .int) at hX
  show WM X o hn M G 0 0 0 2 [(0, .ref (o 28)), (1, .int x1)] []
  unfold s_X6_shifts at hE
  refine q_aload_n (pc := 0) hX 0 rfl rfl dX6_shifts_0 ?_
  refine q_get (pc := 1) (id := 28) (ci := 6) (N := 6) (T := TX6) (C := RX6) hX 5 (lt46 (by decide)) rfl rfl in_X6 (by decide) (Or.inl kw_22) rfl dX6_shifts_1 ?_
  refine q_aload_n (pc := 4) hX 0 rfl rfl dX6_shifts_4 ?_
  refine q_iload_n (pc := 5) hX 1 rfl rfl dX6_shifts_5 ?_
  obtain ⟨r1, hr1, hE⟩ := ob_bind hE
  have hkr1 : r1.1 = 0 := by
    by_cases h9 : r1.1 = 0
    · exact h9
    · rw [if_pos h9] at hE
      exact congrArg Prod.fst (Option.some.inj hE)
  rw [if_neg (fun h => h hkr1)] at hE
  refine q_callV (pc := 6) (id := 28) (As := [.int x1]) (rest := [.ref (o 43)]) (rv := some (.ref (o r1.2))) (st' := [.ref (o r1.2), .ref (o 43)]) hX (c_X6_find (thr_z hr1 hkr1)) (vl_X6_60) (lt46 (by decide)) rfl rfl rfl pd_yX6_find rfl ⟨by decide, by decide⟩ ⟨Nat.le_of_ble_eq_true rfl, Nat.le_of_ble_eq_true rfl⟩ rfl (Nat.le_of_ble_eq_true rfl) rfl dX6_shifts_6 ?_
  have hemr1 := find_em hr1 hkr1
  refine q_get (pc := 9) (id := r1.2) (ci := 0) (N := 6) (T := TX0) (C := RX0) hX 3 (em_lt hemr1) (ob_E hemr1 _ _) rfl in_X0 (by decide) (Or.inr ⟨_, fn_X6_67⟩) rfl dX6_shifts_9 ?_
  obtain ⟨r2, hr2, hE⟩ := ob_bind hE
  refine q_callV (pc := 12) (id := 43) (As := [.ref (o (r1.2 + 1))]) (rest := []) (rv := none) (st' := []) hX (c_X3_read (tb_e1 hemr1) hr2) (vl_X6_156) (lt46 (by decide)) rfl rfl rfl pd_yX3_read rfl ⟨by decide, by decide⟩ ⟨Nat.le_of_ble_eq_true rfl, Nat.le_of_ble_eq_true rfl⟩ rfl (Nat.le_of_ble_eq_true rfl) rfl dX6_shifts_12 ?_
  refine q_aload_n (pc := 15) hX 0 rfl rfl dX6_shifts_15 ?_
  refine q_get (pc := 16) (id := 28) (ci := 6) (N := 6) (T := TX6) (C := RX6) hX 5 (lt46 (by decide)) rfl rfl in_X6 (by decide) (Or.inl kw_22) rfl dX6_shifts_16 ?_
  refine q_get (pc := 19) (id := 43) (ci := 3) (N := 2) (T := TX3) (C := RX3) hX 0 (lt46 (by decide)) rfl rfl in_X3 (by decide) (Or.inr ⟨_, fn_X6_161⟩) rfl dX6_shifts_19 ?_
  obtain ⟨r3, hr3, hE⟩ := ob_bind hE
  refine q_callV (pc := 22) (id := 44) (As := []) (rest := []) (rv := some (.int r3)) (st' := [.int r3]) hX (c_X4_size (tb_44 hn) hr3) (vl_X6_93) (lt46 (by decide)) (ob_T (tb_44 hn).1 _ _) rfl rfl pd_yX4_size rfl ⟨by decide, by decide⟩ ⟨Nat.le_of_ble_eq_true rfl, Nat.le_of_ble_eq_true rfl⟩ rfl (Nat.le_of_ble_eq_true rfl) rfl dX6_shifts_22 ?_
  cases hE
  exact q_iret hX hR (by decide) (by decide) dX6_shifts_25

set_option maxHeartbeats 4000000 in
theorem c_X6_stretches {Y : Lx} {o : Nat → Nat} {hn : Nat} {M : Mem} {G : Mel} {x1 : Int32} {rr : Int32} {Mr : Mem} (hE : s_X6_stretches M hn x1 = some (0, rr, Mr)) : MI Y yX6_stretches cX6_stretches 2 (some .int) 5 116 0 0 [.ref (o 28), .int x1] o hn M G (.inl (some (.int rr))) Mr G := by
  refine MI.of (by decide +kernel) (Nat.le_of_ble_eq_true rfl) (fun X hY hX hE0 hR => ?_)
  change CxOK X RX6 cX6_stretches 2 5 116 0 0 (some .int) at hX
  show WM X o hn M G 0 0 0 2 [(0, .ref (o 28)), (1, .int x1)] []
  unfold s_X6_stretches at hE
  refine q_aload_n (pc := 0) hX 0 rfl rfl dX6_stretches_0 ?_
  refine q_get (pc := 1) (id := 28) (ci := 6) (N := 6) (T := TX6) (C := RX6) hX 4 (lt46 (by decide)) rfl rfl in_X6 (by decide) (Or.inl kw_21) rfl dX6_stretches_1 ?_
  refine q_aload_n (pc := 4) hX 0 rfl rfl dX6_stretches_4 ?_
  refine q_iload_n (pc := 5) hX 1 rfl rfl dX6_stretches_5 ?_
  obtain ⟨r1, hr1, hE⟩ := ob_bind hE
  have hkr1 : r1.1 = 0 := by
    by_cases h9 : r1.1 = 0
    · exact h9
    · rw [if_pos h9] at hE
      exact congrArg Prod.fst (Option.some.inj hE)
  rw [if_neg (fun h => h hkr1)] at hE
  refine q_callV (pc := 6) (id := 28) (As := [.int x1]) (rest := [.ref (o 38)]) (rv := some (.ref (o r1.2))) (st' := [.ref (o r1.2), .ref (o 38)]) hX (c_X6_find (thr_z hr1 hkr1)) (vl_X6_60) (lt46 (by decide)) rfl rfl rfl pd_yX6_find rfl ⟨by decide, by decide⟩ ⟨Nat.le_of_ble_eq_true rfl, Nat.le_of_ble_eq_true rfl⟩ rfl (Nat.le_of_ble_eq_true rfl) rfl dX6_stretches_6 ?_
  have hemr1 := find_em hr1 hkr1
  obtain ⟨r2, hr2, hE⟩ := ob_bind hE
  refine q_callV (pc := 9) (id := 38) (As := [.ref (o r1.2)]) (rest := []) (rv := none) (st' := []) hX (c_X5_read hemr1 hr2) (vl_X6_173) (lt46 (by decide)) rfl rfl rfl pd_yX5_read rfl ⟨by decide, by decide⟩ ⟨Nat.le_of_ble_eq_true rfl, Nat.le_of_ble_eq_true rfl⟩ rfl (Nat.le_of_ble_eq_true rfl) rfl dX6_stretches_9 ?_
  refine q_aload_n (pc := 12) hX 0 rfl rfl dX6_stretches_12 ?_
  refine q_get (pc := 13) (id := 28) (ci := 6) (N := 6) (T := TX6) (C := RX6) hX 4 (lt46 (by decide)) rfl rfl in_X6 (by decide) (Or.inl kw_21) rfl dX6_stretches_13 ?_
  refine q_get (pc := 16) (id := 38) (ci := 5) (N := 4) (T := TX5) (C := RX5) hX 2 (lt46 (by decide)) rfl rfl in_X5 (by decide) (Or.inr ⟨_, fn_X6_177⟩) rfl dX6_stretches_16 ?_
  obtain ⟨r3, hr3, hE⟩ := ob_bind hE
  refine q_callV (pc := 19) (id := 41) (As := []) (rest := []) (rv := some (.int r3)) (st' := [.int r3]) hX (c_X4_size (tb_41 hn) hr3) (vl_X6_93) (lt46 (by decide)) (ob_T (tb_41 hn).1 _ _) rfl rfl pd_yX4_size rfl ⟨by decide, by decide⟩ ⟨Nat.le_of_ble_eq_true rfl, Nat.le_of_ble_eq_true rfl⟩ rfl (Nat.le_of_ble_eq_true rfl) rfl dX6_stretches_19 ?_
  cases hE
  exact q_iret hX hR (by decide) (by decide) dX6_stretches_22

set_option maxHeartbeats 4000000 in
theorem c_X6_overlap {Y : Lx} {o : Nat → Nat} {hn : Nat} {M : Mem} {G : Mel} {x1 : Int32} {rr : Int32} {Mr : Mem} (hE : s_X6_overlap M hn x1 = some (0, rr, Mr)) : MI Y yX6_overlap cX6_overlap 2 (some .int) 5 116 0 0 [.ref (o 28), .int x1] o hn M G (.inl (some (.int rr))) Mr G := by
  refine MI.of (by decide +kernel) (Nat.le_of_ble_eq_true rfl) (fun X hY hX hE0 hR => ?_)
  change CxOK X RX6 cX6_overlap 2 5 116 0 0 (some .int) at hX
  show WM X o hn M G 0 0 0 2 [(0, .ref (o 28)), (1, .int x1)] []
  unfold s_X6_overlap at hE
  refine q_aload_n (pc := 0) hX 0 rfl rfl dX6_overlap_0 ?_
  refine q_get (pc := 1) (id := 28) (ci := 6) (N := 6) (T := TX6) (C := RX6) hX 4 (lt46 (by decide)) rfl rfl in_X6 (by decide) (Or.inl kw_21) rfl dX6_overlap_1 ?_
  refine q_aload_n (pc := 4) hX 0 rfl rfl dX6_overlap_4 ?_
  refine q_iload_n (pc := 5) hX 1 rfl rfl dX6_overlap_5 ?_
  obtain ⟨r1, hr1, hE⟩ := ob_bind hE
  have hkr1 : r1.1 = 0 := by
    by_cases h9 : r1.1 = 0
    · exact h9
    · rw [if_pos h9] at hE
      exact congrArg Prod.fst (Option.some.inj hE)
  rw [if_neg (fun h => h hkr1)] at hE
  refine q_callV (pc := 6) (id := 28) (As := [.int x1]) (rest := [.ref (o 38)]) (rv := some (.ref (o r1.2))) (st' := [.ref (o r1.2), .ref (o 38)]) hX (c_X6_find (thr_z hr1 hkr1)) (vl_X6_60) (lt46 (by decide)) rfl rfl rfl pd_yX6_find rfl ⟨by decide, by decide⟩ ⟨Nat.le_of_ble_eq_true rfl, Nat.le_of_ble_eq_true rfl⟩ rfl (Nat.le_of_ble_eq_true rfl) rfl dX6_overlap_6 ?_
  have hemr1 := find_em hr1 hkr1
  obtain ⟨r2, hr2, hE⟩ := ob_bind hE
  refine q_callV (pc := 9) (id := 38) (As := [.ref (o r1.2)]) (rest := []) (rv := none) (st' := []) hX (c_X5_read hemr1 hr2) (vl_X6_173) (lt46 (by decide)) rfl rfl rfl pd_yX5_read rfl ⟨by decide, by decide⟩ ⟨Nat.le_of_ble_eq_true rfl, Nat.le_of_ble_eq_true rfl⟩ rfl (Nat.le_of_ble_eq_true rfl) rfl dX6_overlap_9 ?_
  refine q_aload_n (pc := 12) hX 0 rfl rfl dX6_overlap_12 ?_
  refine q_get (pc := 13) (id := 28) (ci := 6) (N := 6) (T := TX6) (C := RX6) hX 4 (lt46 (by decide)) rfl rfl in_X6 (by decide) (Or.inl kw_21) rfl dX6_overlap_13 ?_
  refine q_get (pc := 16) (id := 38) (ci := 5) (N := 4) (T := TX5) (C := RX5) hX 3 (lt46 (by decide)) rfl rfl in_X5 (by decide) (Or.inr ⟨_, fn_X6_174⟩) rfl dX6_overlap_16 ?_
  cases hE
  exact q_iret hX hR (by decide) (by decide) dX6_overlap_19

set_option maxHeartbeats 4000000 in
theorem l_X6_longest_4 {X : Cx} (hX : CxOK X RX6 cX6_longest 3 1 24 0 0 (some .int)) (hE0 : CxE X []) {o : Nat → Nat} {hn : Nat} {M : Mem} {t0 : Nat} {G : Mel} (ht0 : tb hn t0) : ∀ (f : Nat) (y1 : Int32) (y2 : Int32) (p8 : Int32 × Int32), L_X6_longest_4 M t0 f y1 y2 = some p8 → WM X o hn M G 0 0 36 3 [(0, .ref (o t0)), (1, .int p8.1), (2, .int p8.2)] [] → WM X o hn M G 0 0 4 3 [(0, .ref (o t0)), (1, .int y1), (2, .int y2)] [] := by
  intro f
  induction f with
  | zero => intro y1 y2 p8 hE; simp [L_X6_longest_4] at hE
  | succ f ih =>
    intro y1 y2 p8 hE hx
    rw [L_X6_longest_4] at hE
    refine q_iload_n (pc := 4) hX 2 rfl rfl dX6_longest_4 ?_
    refine q_aload_n (pc := 5) hX 0 rfl rfl dX6_longest_5 ?_
    obtain ⟨r3, hr3, hE⟩ := ob_bind hE
    refine q_callV (pc := 6) (id := t0) (As := []) (rest := [.int y2]) (rv := some (.int r3)) (st' := [.int r3, .int y2]) hX (c_X4_size ht0 hr3) (vl_X6_93) (tb_lt ht0) (ob_T ht0.1 _ _) rfl rfl pd_yX4_size rfl ⟨by decide, by decide⟩ ⟨Nat.le_of_ble_eq_true rfl, Nat.le_of_ble_eq_true rfl⟩ rfl (Nat.le_of_ble_eq_true rfl) rfl dX6_longest_6 ?_
    refine q_icmp_ge (pc := 9) hX 36 (by decide) dX6_longest_9 (fun c => ?_) (fun c => ?_)
    · rw [if_pos c] at hE
      cases hE
      exact hx
    · rw [if_neg c] at hE
      refine q_iload_n (pc := 12) hX 1 rfl rfl dX6_longest_12 ?_
      refine q_aload_n (pc := 13) hX 0 rfl rfl dX6_longest_13 ?_
      refine q_iload_n (pc := 14) hX 2 rfl rfl dX6_longest_14 ?_
      refine q_iconst (pc := 15) hX (1) rfl dX6_longest_15 ?_
      obtain ⟨r4, hr4, hE⟩ := ob_bind hE
      refine q_callV (pc := 16) (id := t0) (As := [.int y2, .int 1]) (rest := [.int y1]) (rv := some (.int r4)) (st' := [.int r4, .int y1]) hX (c_X4_get ht0 hr4) (vl_X6_102) (tb_lt ht0) (ob_T ht0.1 _ _) rfl rfl pd_yX4_get rfl ⟨by decide, by decide⟩ ⟨Nat.le_of_ble_eq_true rfl, Nat.le_of_ble_eq_true rfl⟩ rfl (Nat.le_of_ble_eq_true rfl) rfl dX6_longest_16 ?_
      refine q_aload_n (pc := 19) hX 0 rfl rfl dX6_longest_19 ?_
      refine q_iload_n (pc := 20) hX 2 rfl rfl dX6_longest_20 ?_
      refine q_iconst (pc := 21) hX (0) rfl dX6_longest_21 ?_
      obtain ⟨r5, hr5, hE⟩ := ob_bind hE
      refine q_callV (pc := 22) (id := t0) (As := [.int y2, .int 0]) (rest := [.int r4, .int y1]) (rv := some (.int r5)) (st' := [.int r5, .int r4, .int y1]) hX (c_X4_get ht0 hr5) (vl_X6_102) (tb_lt ht0) (ob_T ht0.1 _ _) rfl rfl pd_yX4_get rfl ⟨by decide, by decide⟩ ⟨Nat.le_of_ble_eq_true rfl, Nat.le_of_ble_eq_true rfl⟩ rfl (Nat.le_of_ble_eq_true rfl) rfl dX6_longest_22 ?_
      refine q_isub (pc := 25) hX dX6_longest_25 ?_
      refine r_max (pc := 26) hX kw_239 kw_200 kw_192 kw_201 (by decide) (Nat.le_of_ble_eq_true rfl) (Nat.le_of_ble_eq_true rfl) (Nat.le_of_ble_eq_true rfl) dX6_longest_26 ?_
      refine q_nm (fun z6 hz6 => ?_)
      have hE := bnd_nm hz6 hE
      refine q_istore_n (pc := 29) (lo' := [(0, .ref (o t0)), (1, .int z6), (2, .int y2)]) hX [1, 0, 2] rfl (by decide) rfl dX6_longest_29 ?_
      obtain ⟨z7, hz7⟩ : ∃ z : Int32, z = y2 + 1 := ⟨_, rfl⟩
      have hE := bnd_nm hz7 hE
      refine q_iinc (pc := 30) (lo' := [(0, .ref (o t0)), (1, .int z6), (2, .int z7)]) hX 2 z7 [1, 2, 0] rfl (by rw [hz7]; rfl) (by decide) rfl dX6_longest_30 ?_
      refine q_goto (pc := 33) hX 4 (by decide) dX6_longest_33 ?_
      exact ih _ _ p8 hE hx

set_option maxHeartbeats 4000000 in
theorem c_X6_longest {Y : Lx} {o : Nat → Nat} {hn : Nat} {M : Mem} {G : Mel} {t0 : Nat} {rr : Int32} (ht0 : tb hn t0) (hE : s_X6_longest M t0 = some (rr)) : MI Y yX6_longest cX6_longest 3 (some .int) 1 24 0 0 [.ref (o t0)] o hn M G (.inl (some (.int rr))) M G := by
  refine MI.of (by decide +kernel) (Nat.le_of_ble_eq_true rfl) (fun X hY hX hE0 hR => ?_)
  change CxOK X RX6 cX6_longest 3 1 24 0 0 (some .int) at hX
  show WM X o hn M G 0 0 0 3 [(0, .ref (o t0))] []
  unfold s_X6_longest at hE
  refine q_iconst (pc := 0) hX (0) rfl dX6_longest_0 ?_
  refine q_istore_n (pc := 1) (lo' := [(0, .ref (o t0)), (1, .int 0)]) hX [1, 0] rfl (by decide) rfl dX6_longest_1 ?_
  refine q_iconst (pc := 2) hX (0) rfl dX6_longest_2 ?_
  refine q_istore_n (pc := 3) (lo' := [(0, .ref (o t0)), (1, .int 0), (2, .int 0)]) hX [1, 2, 0] rfl (by decide) rfl dX6_longest_3 ?_
  obtain ⟨p8, hp8, hE⟩ := ob_bind hE
  refine l_X6_longest_4 hX hE0 ht0 FU _ _ p8 hp8 ?_
  refine q_iload_n (pc := 36) hX 1 rfl rfl dX6_longest_36 ?_
  cases hE
  exact q_iret hX hR (by decide) (by decide) dX6_longest_37

set_option maxHeartbeats 4000000 in
theorem c_X6_longestStretch {Y : Lx} {o : Nat → Nat} {hn : Nat} {M : Mem} {G : Mel} {x1 : Int32} {rr : Int32} {Mr : Mem} (hE : s_X6_longestStretch M hn x1 = some (0, rr, Mr)) : MI Y yX6_longestStretch cX6_longestStretch 2 (some .int) 5 116 0 0 [.ref (o 28), .int x1] o hn M G (.inl (some (.int rr))) Mr G := by
  refine MI.of (by decide +kernel) (Nat.le_of_ble_eq_true rfl) (fun X hY hX hE0 hR => ?_)
  change CxOK X RX6 cX6_longestStretch 2 5 116 0 0 (some .int) at hX
  show WM X o hn M G 0 0 0 2 [(0, .ref (o 28)), (1, .int x1)] []
  unfold s_X6_longestStretch at hE
  refine q_aload_n (pc := 0) hX 0 rfl rfl dX6_longestStretch_0 ?_
  refine q_get (pc := 1) (id := 28) (ci := 6) (N := 6) (T := TX6) (C := RX6) hX 4 (lt46 (by decide)) rfl rfl in_X6 (by decide) (Or.inl kw_21) rfl dX6_longestStretch_1 ?_
  refine q_aload_n (pc := 4) hX 0 rfl rfl dX6_longestStretch_4 ?_
  refine q_iload_n (pc := 5) hX 1 rfl rfl dX6_longestStretch_5 ?_
  obtain ⟨r1, hr1, hE⟩ := ob_bind hE
  have hkr1 : r1.1 = 0 := by
    by_cases h9 : r1.1 = 0
    · exact h9
    · rw [if_pos h9] at hE
      exact congrArg Prod.fst (Option.some.inj hE)
  rw [if_neg (fun h => h hkr1)] at hE
  refine q_callV (pc := 6) (id := 28) (As := [.int x1]) (rest := [.ref (o 38)]) (rv := some (.ref (o r1.2))) (st' := [.ref (o r1.2), .ref (o 38)]) hX (c_X6_find (thr_z hr1 hkr1)) (vl_X6_60) (lt46 (by decide)) rfl rfl rfl pd_yX6_find rfl ⟨by decide, by decide⟩ ⟨Nat.le_of_ble_eq_true rfl, Nat.le_of_ble_eq_true rfl⟩ rfl (Nat.le_of_ble_eq_true rfl) rfl dX6_longestStretch_6 ?_
  have hemr1 := find_em hr1 hkr1
  obtain ⟨r2, hr2, hE⟩ := ob_bind hE
  refine q_callV (pc := 9) (id := 38) (As := [.ref (o r1.2)]) (rest := []) (rv := none) (st' := []) hX (c_X5_read hemr1 hr2) (vl_X6_173) (lt46 (by decide)) rfl rfl rfl pd_yX5_read rfl ⟨by decide, by decide⟩ ⟨Nat.le_of_ble_eq_true rfl, Nat.le_of_ble_eq_true rfl⟩ rfl (Nat.le_of_ble_eq_true rfl) rfl dX6_longestStretch_9 ?_
  refine q_aload_n (pc := 12) hX 0 rfl rfl dX6_longestStretch_12 ?_
  refine q_get (pc := 13) (id := 28) (ci := 6) (N := 6) (T := TX6) (C := RX6) hX 4 (lt46 (by decide)) rfl rfl in_X6 (by decide) (Or.inl kw_21) rfl dX6_longestStretch_13 ?_
  refine q_get (pc := 16) (id := 38) (ci := 5) (N := 4) (T := TX5) (C := RX5) hX 2 (lt46 (by decide)) rfl rfl in_X5 (by decide) (Or.inr ⟨_, fn_X6_177⟩) rfl dX6_longestStretch_16 ?_
  obtain ⟨r3, hr3, hE⟩ := ob_bind hE
  refine q_callS (pc := 19) (As := [.ref (o 41)]) (rest := []) (rv := some (.int r3)) (st' := [.int r3]) hX (c_X6_longest (tb_41 hn) hr3) (sl_X6_183) pd_yX6_longest rfl ⟨by decide, by decide⟩ ⟨Nat.le_of_ble_eq_true rfl, Nat.le_of_ble_eq_true rfl⟩ rfl (Nat.le_of_ble_eq_true rfl) rfl dX6_longestStretch_19 ?_
  cases hE
  exact q_iret hX hR (by decide) (by decide) dX6_longestStretch_22

set_option maxHeartbeats 4000000 in
theorem c_X6_repairedShifts {Y : Lx} {o : Nat → Nat} {hn : Nat} {M : Mem} {G : Mel} {x1 : Int32} {rr : Int32} {Mr : Mem} (hE : s_X6_repairedShifts M hn x1 = some (0, rr, Mr)) : MI Y yX6_repairedShifts cX6_repairedShifts 2 (some .int) 4 94 0 0 [.ref (o 28), .int x1] o hn M G (.inl (some (.int rr))) Mr G := by
  refine MI.of (by decide +kernel) (Nat.le_of_ble_eq_true rfl) (fun X hY hX hE0 hR => ?_)
  change CxOK X RX6 cX6_repairedShifts 2 4 94 0 0 (some .int) at hX
  show WM X o hn M G 0 0 0 2 [(0, .ref (o 28)), (1, .int x1)] []
  unfold s_X6_repairedShifts at hE
  refine q_aload_n (pc := 0) hX 0 rfl rfl dX6_repairedShifts_0 ?_
  refine q_get (pc := 1) (id := 28) (ci := 6) (N := 6) (T := TX6) (C := RX6) hX 5 (lt46 (by decide)) rfl rfl in_X6 (by decide) (Or.inl kw_22) rfl dX6_repairedShifts_1 ?_
  refine q_aload_n (pc := 4) hX 0 rfl rfl dX6_repairedShifts_4 ?_
  refine q_iload_n (pc := 5) hX 1 rfl rfl dX6_repairedShifts_5 ?_
  obtain ⟨r1, hr1, hE⟩ := ob_bind hE
  have hkr1 : r1.1 = 0 := by
    by_cases h9 : r1.1 = 0
    · exact h9
    · rw [if_pos h9] at hE
      exact congrArg Prod.fst (Option.some.inj hE)
  rw [if_neg (fun h => h hkr1)] at hE
  refine q_callV (pc := 6) (id := 28) (As := [.int x1]) (rest := [.ref (o 43)]) (rv := some (.ref (o r1.2))) (st' := [.ref (o r1.2), .ref (o 43)]) hX (c_X6_find (thr_z hr1 hkr1)) (vl_X6_60) (lt46 (by decide)) rfl rfl rfl pd_yX6_find rfl ⟨by decide, by decide⟩ ⟨Nat.le_of_ble_eq_true rfl, Nat.le_of_ble_eq_true rfl⟩ rfl (Nat.le_of_ble_eq_true rfl) rfl dX6_repairedShifts_6 ?_
  have hemr1 := find_em hr1 hkr1
  refine q_get (pc := 9) (id := r1.2) (ci := 0) (N := 6) (T := TX0) (C := RX0) hX 3 (em_lt hemr1) (ob_E hemr1 _ _) rfl in_X0 (by decide) (Or.inr ⟨_, fn_X6_67⟩) rfl dX6_repairedShifts_9 ?_
  obtain ⟨r2, hr2, hE⟩ := ob_bind hE
  refine q_callV (pc := 12) (id := 43) (As := [.ref (o (r1.2 + 1))]) (rest := []) (rv := none) (st' := []) hX (c_X3_read (tb_e1 hemr1) hr2) (vl_X6_156) (lt46 (by decide)) rfl rfl rfl pd_yX3_read rfl ⟨by decide, by decide⟩ ⟨Nat.le_of_ble_eq_true rfl, Nat.le_of_ble_eq_true rfl⟩ rfl (Nat.le_of_ble_eq_true rfl) rfl dX6_repairedShifts_12 ?_
  refine q_aload_n (pc := 15) hX 0 rfl rfl dX6_repairedShifts_15 ?_
  refine q_get (pc := 16) (id := 28) (ci := 6) (N := 6) (T := TX6) (C := RX6) hX 5 (lt46 (by decide)) rfl rfl in_X6 (by decide) (Or.inl kw_22) rfl dX6_repairedShifts_16 ?_
  refine q_get (pc := 19) (id := 43) (ci := 3) (N := 2) (T := TX3) (C := RX3) hX 1 (lt46 (by decide)) rfl rfl in_X3 (by decide) (Or.inr ⟨_, fn_X6_167⟩) rfl dX6_repairedShifts_19 ?_
  cases hE
  exact q_iret hX hR (by decide) (by decide) dX6_repairedShifts_22
end
section
/-! the meanings of the law's own methods, printed by program -/
def s_L_low (x0 : Int32) (x1 : Int32) : Option (Int32) :=
  if x1 = 0 then none else
  some ((x0 &&& 2147483647) - (x0 &&& 2147483647) / x1 * x1)

def L_L_reads_2 (hn : Nat) : Nat → Int32 → Mem → Option (Int32 × Mem)
  | 0, _, _ => none
  | f + 1, y1, M2 =>
    if 21 ≤ y1 then
      some (y1, M2)
    else
      (s_X6_minutes M2 hn 0 (y1 / 3) (y1 - y1 / 3 * 3)).bind fun r3 =>
      if ¬ r3.1 = 0 then none else
      (mwr 21 r3.2.2 26 y1 r3.2.1).bind fun M4 =>
      (s_X6_quarters M4 hn 0 (y1 / 3) (y1 - y1 / 3 * 3)).bind fun r5 =>
      if ¬ r5.1 = 0 then none else
      (mwr 21 r5.2.2 27 y1 r5.2.1).bind fun M6 =>
      bnd (y1 + 1) fun z7 : Int32 =>
      L_L_reads_2 hn f z7 M6

def s_L_reads (M : Mem) (hn : Nat) : Option (Mem) :=
  (L_L_reads_2 hn FU 0 M).bind fun p8 =>
  some p8.2

def L_L_weekOf_84 (M : Mem) (y4 : Int32) (z7 : Int32) : Nat → Int32 → Int32 → Option (Int32 × Int32)
  | 0, _, _ => none
  | f + 1, y15, y16 =>
    if y4 ≤ y16 then
      some (y15, y16)
    else
      (mrd 21 (M 27) y16).bind fun v17 =>
      (mrd 21 (M 26) y16).bind fun v18 =>
      bnd (v17 - (v18 / 15)) fun z19 : Int32 =>
      Option.bind (α := Int32) (
        if y15 = 0 then
          some 0
        else
          if z7 ≤ z19 then
            if z19 ≤ z7 then
              some 1
            else
              (mrd 21 (M 26) y4).bind fun v21 =>
              (mrd 21 (M 26) y16).bind fun v22 =>
              if (v22 - v22 / 15 * 15) < (v21 - v21 / 15 * 15) then
                some 0
              else
                some 1
          else
            (mrd 21 (M 26) y4).bind fun v23 =>
            (mrd 21 (M 26) y16).bind fun v24 =>
            if (v23 - v23 / 15 * 15) ≤ (v24 - v24 / 15 * 15) then
              some 0
            else
              if z19 ≤ z7 then
                some 1
              else
                (mrd 21 (M 26) y4).bind fun v25 =>
                (mrd 21 (M 26) y16).bind fun v26 =>
                if (v26 - v26 / 15 * 15) < (v25 - v25 / 15 * 15) then
                  some 0
                else
                  some 1) fun p27 =>
      bnd (y16 + 3) fun z28 : Int32 =>
      L_L_weekOf_84 M y4 z7 f p27 z28

def L_L_weekOf_11 (M : Mem) (x2 : Int32) : Nat → Int32 → Int32 → Int32 → Int32 → Option (Int32 × Int32 × Int32 × Int32)
  | 0, _, _, _, _ => none
  | f + 1, y1, y2, y3, y4 =>
    if 21 ≤ y4 then
      some (y1, y2, y3, y4)
    else
      (mrd 21 (M 27) y4).bind fun v5 =>
      (mrd 21 (M 26) y4).bind fun v6 =>
      bnd (v5 - (v6 / 15)) fun z7 : Int32 =>
      Option.bind (α := Int32) (
        if y3 = 0 then
          some 0
        else
          if z7 = 0 then
            some 1
          else
            if z7 = 1 then
              (mrd 21 (M 26) y4).bind fun v9 =>
              if (v9 - v9 / 15 * 15) ≤ 0 then
                some 0
              else
                some 1
            else
              some 0) fun p10 =>
      (mrd 21 (M 26) y4).bind fun v11 =>
      bnd (y1 + v11) fun z12 : Int32 =>
      (mrd 21 (M 27) y4).bind fun v13 =>
      bnd (y2 + v13) fun z14 : Int32 =>
      (L_L_weekOf_84 M y4 z7 FU p10 x2).bind fun p29 =>
      bnd (y4 + 3) fun z30 : Int32 =>
      L_L_weekOf_11 M x2 f z12 z14 p29.1 z30

def s_L_weekOf (M : Mem) (x2 : Int32) : Option (Int32) :=
  (L_L_weekOf_11 M x2 FU 0 0 1 x2).bind fun p31 =>
  bnd ((15 * p31.2.1) - p31.1) fun z32 : Int32 =>
  if p31.2.2.1 = 0 then
    some ((-1))
  else
    if 7 < z32 then
      some ((-1))
    else
      if z32 < ((-7)) then
        some ((-1))
      else
        some p31.2.1

def L_L_isPaid_108 (hn : Nat) : Nat → Int32 → Int32 → Mem → Option (Int32 × Int32 × Mem)
  | 0, _, _, _ => none
  | f + 1, y10, y11, M12 =>
    if 7 ≤ y11 then
      some (y10, y11, M12)
    else
      (s_X6_workedOn M12 hn 0 y11).bind fun r13 =>
      if ¬ r13.1 = 0 then none else
      (mrd 21 (r13.2.2 26) (3 * y11)).bind fun v14 =>
      (mrd 21 (r13.2.2 26) ((3 * y11) + 1)).bind fun v15 =>
      bnd (v14 + v15) fun z16 : Int32 =>
      Option.bind (α := Int32) (
        if y10 = 0 then
          some 0
        else
          (mrd 21 (r13.2.2 26) ((3 * y11) + 2)).bind fun v18 =>
          if r13.2.1 < (z16 + v18) then
            some 0
          else
            if 1440 < r13.2.1 then
              some 0
            else
              (mrd 21 (r13.2.2 26) (3 * y11)).bind fun v19 =>
              if 480 < v19 then
                some 0
              else
                if 720 < z16 then
                  some 0
                else
                  some 1) fun p20 =>
      bnd (y11 + 1) fun z21 : Int32 =>
      L_L_isPaid_108 hn f p20 z21 r13.2.2

def s_L_isPaid (M : Mem) (hn : Nat) (x3 : Int32) (x4 : Int32) : Option (Int32 × Mem) :=
  (s_L_reads M hn).bind fun r1 =>
  (s_L_weekOf r1 0).bind fun r2 =>
  (s_L_weekOf r1 1).bind fun r3 =>
  (s_L_weekOf r1 2).bind fun r4 =>
  bnd (((x3 * (((2 * r2) + (3 * r3)) + (4 * r4))) + 4) / 8) fun z5 : Int32 =>
  (s_X6_premiumPay r1 hn 0).bind fun r6 =>
  if ¬ r6.1 = 0 then none else
  Option.bind (α := Int32 × Mem) (
    if r2 < 0 then
      some (0, r6.2.2)
    else
      if r3 < 0 then
        some (0, r6.2.2)
      else
        if r4 < 0 then
          some (0, r6.2.2)
        else
          (s_X6_pay r6.2.2 hn 0).bind fun r8 =>
          if ¬ r8.1 = 0 then none else
          if r8.2.1 = (z5 + r6.2.1) then
            if x4 = 0 then
              if r6.2.1 = 0 then
                some (1, r8.2.2)
              else
                some (0, r8.2.2)
            else
              some (1, r8.2.2)
          else
            some (0, r8.2.2)) fun p9 =>
  (L_L_isPaid_108 hn FU p9.1 0 p9.2).bind fun p22 =>
  (bchk p22.1).bind fun v23 =>
  some (v23, p22.2.2)

def s_L_isEmpty (M : Mem) (hn : Nat) (x1 : Int32) : Option (Int32 × Mem) :=
  (s_X6_pay M hn x1).bind fun r1 =>
  if ¬ r1.1 = 0 then none else
  if r1.2.1 = 0 then
    (s_X6_shifts r1.2.2 hn x1).bind fun r2 =>
    if ¬ r2.1 = 0 then none else
    if r2.2.1 = 0 then
      (s_X6_stretches r2.2.2 hn x1).bind fun r3 =>
      if ¬ r3.1 = 0 then none else
      if r3.2.1 = 0 then
        (s_X6_overlap r3.2.2 hn x1).bind fun r4 =>
        if ¬ r4.1 = 0 then none else
        if r4.2.1 = 0 then
          (s_X6_longestStretch r4.2.2 hn x1).bind fun r5 =>
          if ¬ r5.1 = 0 then none else
          if r5.2.1 = 0 then
            (s_X6_repairedShifts r5.2.2 hn x1).bind fun r6 =>
            if ¬ r6.1 = 0 then none else
            if r6.2.1 = 0 then
              some (1, r6.2.2)
            else
              some (0, r6.2.2)
          else
            some (0, r5.2.2)
        else
          some (0, r4.2.2)
      else
        some (0, r3.2.2)
    else
      some (0, r2.2.2)
  else
    some (0, r1.2.2)
end
section
set_option maxHeartbeats 4000000 in
theorem c_L_low {Y : Lx} {o : Nat → Nat} {hn : Nat} {M : Mem} {G : Mel} {x0 : Int32} {x1 : Int32} {rr : Int32} (hE : s_L_low x0 x1 = some (rr)) : MI Y yL_low cL_low 2 (some .int) 0 0 0 0 [.int x0, .int x1] o hn M G (.inl (some (.int rr))) M G := by
  refine MI.of (by decide +kernel) (Nat.le_of_ble_eq_true rfl) (fun X hY hX hE0 hR => ?_)
  change CxOK X RL cL_low 2 0 0 0 0 (some .int) at hX
  show WM X o hn M G 0 0 0 2 [(0, .int x0), (1, .int x1)] []
  unfold s_L_low at hE
  refine q_iload_n (pc := 0) hX 0 rfl rfl dL_low_0 ?_
  refine q_ldc (pc := 1) hX kw_78 dL_low_1 ?_
  refine q_iand (pc := 3) hX dL_low_3 ?_
  refine q_iload_n (pc := 4) hX 1 rfl rfl dL_low_4 ?_
  by_cases hg : x1 = 0
  · rw [if_pos hg] at hE
    cases hE
  rw [if_neg hg] at hE
  refine q_irem (pc := 5) hX hg dL_low_5 ?_
  cases hE
  exact q_iret hX hR (by decide) (by decide) dL_low_6

set_option maxHeartbeats 4000000 in
theorem l_L_reads_2 {X : Cx} (hX : CxOK X RL cL_reads 4 7 164 0 0 none) (hE0 : CxE X []) {o : Nat → Nat} {hn : Nat} {G : Mel} (ha : o 0 = 1) : ∀ (f : Nat) (y1 : Int32) (M2 : Mem) (p8 : Int32 × Mem), L_L_reads_2 hn f y1 M2 = some p8 → WM X o hn p8.2 G 0 0 42 4 [(0, .ref (o 28)), (1, .ref (o 26)), (2, .ref (o 27)), (3, .int p8.1)] [] → WM X o hn M2 G 0 0 2 4 [(0, .ref (o 28)), (1, .ref (o 26)), (2, .ref (o 27)), (3, .int y1)] [] := by
  intro f
  induction f with
  | zero => intro y1 M2 p8 hE; simp [L_L_reads_2] at hE
  | succ f ih =>
    intro y1 M2 p8 hE hx
    rw [L_L_reads_2] at hE
    refine q_iload_n (pc := 2) hX 3 rfl rfl dL_reads_2 ?_
    refine q_bipush (pc := 3) hX (21) (by decide) dL_reads_3 ?_
    refine q_icmp_ge (pc := 5) hX 42 (by decide) dL_reads_5 (fun c => ?_) (fun c => ?_)
    · rw [if_pos c] at hE
      cases hE
      exact hx
    · rw [if_neg c] at hE
      refine q_aload_n (pc := 8) hX 1 rfl rfl dL_reads_8 ?_
      refine q_iload_n (pc := 9) hX 3 rfl rfl dL_reads_9 ?_
      refine q_aload_n (pc := 10) hX 0 rfl rfl dL_reads_10 ?_
      refine q_iconst (pc := 11) hX (0) rfl dL_reads_11 ?_
      refine q_iload_n (pc := 12) hX 3 rfl rfl dL_reads_12 ?_
      refine q_iconst (pc := 13) hX (3) rfl dL_reads_13 ?_
      refine q_idiv (pc := 14) hX (by decide) dL_reads_14 ?_
      refine q_iload_n (pc := 15) hX 3 rfl rfl dL_reads_15 ?_
      refine q_iconst (pc := 16) hX (3) rfl dL_reads_16 ?_
      refine q_irem (pc := 17) hX (by decide) dL_reads_17 ?_
      obtain ⟨r3, hr3, hE⟩ := ob_bind hE
      have hkr3 : r3.1 = 0 := by
        by_cases h9 : r3.1 = 0
        · exact h9
        · rw [if_pos h9] at hE
          cases hE
      rw [if_neg (fun h => h hkr3)] at hE
      refine q_callV (pc := 18) (id := 28) (As := [.int 0, .int (y1 / 3), .int (y1 - y1 / 3 * 3)]) (rest := [.int y1, .ref (o 26)]) (rv := some (.int r3.2.1)) (st' := [.int r3.2.1, .int y1, .ref (o 26)]) hX (c_X6_minutes (thr_z hr3 hkr3)) (vl_L_8) (lt46 (by decide)) rfl rfl rfl pd_yX6_minutes rfl ⟨by decide, by decide⟩ ⟨Nat.le_of_ble_eq_true rfl, Nat.le_of_ble_eq_true rfl⟩ rfl (Nat.le_of_ble_eq_true rfl) rfl dL_reads_18 ?_
      obtain ⟨M4, hM4, hE⟩ := ob_bind hE
      refine r_iast (pc := 21) (id := 26) (n := 21) hX (ar26 ha) (fun _ _ => rfl) hM4 dL_reads_21 ?_
      refine q_aload_n (pc := 22) hX 2 rfl rfl dL_reads_22 ?_
      refine q_iload_n (pc := 23) hX 3 rfl rfl dL_reads_23 ?_
      refine q_aload_n (pc := 24) hX 0 rfl rfl dL_reads_24 ?_
      refine q_iconst (pc := 25) hX (0) rfl dL_reads_25 ?_
      refine q_iload_n (pc := 26) hX 3 rfl rfl dL_reads_26 ?_
      refine q_iconst (pc := 27) hX (3) rfl dL_reads_27 ?_
      refine q_idiv (pc := 28) hX (by decide) dL_reads_28 ?_
      refine q_iload_n (pc := 29) hX 3 rfl rfl dL_reads_29 ?_
      refine q_iconst (pc := 30) hX (3) rfl dL_reads_30 ?_
      refine q_irem (pc := 31) hX (by decide) dL_reads_31 ?_
      obtain ⟨r5, hr5, hE⟩ := ob_bind hE
      have hkr5 : r5.1 = 0 := by
        by_cases h9 : r5.1 = 0
        · exact h9
        · rw [if_pos h9] at hE
          cases hE
      rw [if_neg (fun h => h hkr5)] at hE
      refine q_callV (pc := 32) (id := 28) (As := [.int 0, .int (y1 / 3), .int (y1 - y1 / 3 * 3)]) (rest := [.int y1, .ref (o 27)]) (rv := some (.int r5.2.1)) (st' := [.int r5.2.1, .int y1, .ref (o 27)]) hX (c_X6_quarters (thr_z hr5 hkr5)) (vl_L_14) (lt46 (by decide)) rfl rfl rfl pd_yX6_quarters rfl ⟨by decide, by decide⟩ ⟨Nat.le_of_ble_eq_true rfl, Nat.le_of_ble_eq_true rfl⟩ rfl (Nat.le_of_ble_eq_true rfl) rfl dL_reads_32 ?_
      obtain ⟨M6, hM6, hE⟩ := ob_bind hE
      refine r_iast (pc := 35) (id := 27) (n := 21) hX (ar27 ha) (fun _ _ => rfl) hM6 dL_reads_35 ?_
      obtain ⟨z7, hz7⟩ : ∃ z : Int32, z = y1 + 1 := ⟨_, rfl⟩
      have hE := bnd_nm hz7 hE
      refine q_iinc (pc := 36) (lo' := [(0, .ref (o 28)), (1, .ref (o 26)), (2, .ref (o 27)), (3, .int z7)]) hX 3 z7 [1, 2, 3, 0] rfl (by rw [hz7]; rfl) (by decide) rfl dL_reads_36 ?_
      refine q_goto (pc := 39) hX 2 (by decide) dL_reads_39 ?_
      exact ih _ _ p8 hE hx

set_option maxHeartbeats 4000000 in
theorem c_L_reads {Y : Lx} {o : Nat → Nat} {hn : Nat} {M : Mem} {G : Mel} {Mr : Mem} (ha : o 0 = 1) (hE : s_L_reads M hn = some (Mr)) : MI Y yL_reads cL_reads 4 none 7 164 0 0 [.ref (o 28), .ref (o 26), .ref (o 27)] o hn M G (.inl (none)) Mr G := by
  refine MI.of (by decide +kernel) (Nat.le_of_ble_eq_true rfl) (fun X hY hX hE0 hR => ?_)
  change CxOK X RL cL_reads 4 7 164 0 0 none at hX
  show WM X o hn M G 0 0 0 4 [(0, .ref (o 28)), (1, .ref (o 26)), (2, .ref (o 27))] []
  unfold s_L_reads at hE
  refine q_iconst (pc := 0) hX (0) rfl dL_reads_0 ?_
  refine q_istore_n (pc := 1) (lo' := [(0, .ref (o 28)), (1, .ref (o 26)), (2, .ref (o 27)), (3, .int 0)]) hX [1, 2, 3, 0] rfl (by decide) rfl dL_reads_1 ?_
  obtain ⟨p8, hp8, hE⟩ := ob_bind hE
  refine l_L_reads_2 hX hE0 ha FU _ _ p8 hp8 ?_
  cases hE
  exact q_vret hX hR (by decide) (by decide) dL_reads_42

set_option maxHeartbeats 4000000 in
theorem l_L_weekOf_84 {X : Cx} (hX : CxOK X RL cL_weekOf 10 0 0 0 0 (some .int)) (hE0 : CxE X []) {o : Nat → Nat} {hn : Nat} {M : Mem} {x2 : Int32} {G : Mel} {y4 : Int32} {z7 : Int32} {z12 : Int32} {z14 : Int32} (ha : o 0 = 1) : ∀ (f : Nat) (y15 : Int32) (y16 : Int32) (p29 : Int32 × Int32), L_L_weekOf_84 M y4 z7 f y15 y16 = some p29 → WM X o hn M G 0 0 171 10 [(0, .ref (o 26)), (1, .ref (o 27)), (2, .int x2), (3, .int z12), (4, .int z14), (5, .int p29.1), (6, .int y4), (7, .int z7), (8, .int p29.2)] [] → WM X o hn M G 0 0 84 10 [(0, .ref (o 26)), (1, .ref (o 27)), (2, .int x2), (3, .int z12), (4, .int z14), (5, .int y15), (6, .int y4), (7, .int z7), (8, .int y16)] [] := by
  intro f
  induction f with
  | zero => intro y15 y16 p29 hE; simp [L_L_weekOf_84] at hE
  | succ f ih =>
    intro y15 y16 p29 hE hx
    rw [L_L_weekOf_84] at hE
    refine q_iload (pc := 84) hX 8 rfl dL_weekOf_84 ?_
    refine q_iload (pc := 86) hX 6 rfl dL_weekOf_86 ?_
    refine q_icmp_ge (pc := 88) hX 171 (by decide) dL_weekOf_88 (fun c => ?_) (fun c => ?_)
    · rw [if_pos c] at hE
      cases hE
      exact hx
    · rw [if_neg c] at hE
      refine q_aload_n (pc := 91) hX 1 rfl rfl dL_weekOf_91 ?_
      refine q_iload (pc := 92) hX 8 rfl dL_weekOf_92 ?_
      obtain ⟨v17, hv17, hE⟩ := ob_bind hE
      refine r_iald (pc := 94) (id := 27) (n := 21) hX (ar27 ha) (fun _ _ => rfl) hv17 dL_weekOf_94 ?_
      refine q_aload_n (pc := 95) hX 0 rfl rfl dL_weekOf_95 ?_
      refine q_iload (pc := 96) hX 8 rfl dL_weekOf_96 ?_
      obtain ⟨v18, hv18, hE⟩ := ob_bind hE
      refine r_iald (pc := 98) (id := 26) (n := 21) hX (ar26 ha) (fun _ _ => rfl) hv18 dL_weekOf_98 ?_
      refine q_bipush (pc := 99) hX (15) (by decide) dL_weekOf_99 ?_
      refine q_idiv (pc := 101) hX (by decide) dL_weekOf_101 ?_
      refine q_isub (pc := 102) hX dL_weekOf_102 ?_
      refine q_nm (fun z19 hz19 => ?_)
      have hE := bnd_nm hz19 hE
      refine q_istore (pc := 103) (lo' := [(0, .ref (o 26)), (1, .ref (o 27)), (2, .int x2), (3, .int z12), (4, .int z14), (5, .int y15), (6, .int y4), (7, .int z7), (8, .int y16), (9, .int z19)]) hX [1, 2, 3, 4, 5, 6, 7, 8, 9, 0] (by decide) rfl dL_weekOf_103 ?_
      refine q_iload (pc := 105) hX 5 rfl dL_weekOf_105 ?_
      obtain ⟨p27, hp27, hE⟩ := ob_bind hE
      suffices Jp27 : WM X o hn M G 0 0 163 10 [(0, .ref (o 26)), (1, .ref (o 27)), (2, .int x2), (3, .int z12), (4, .int z14), (6, .int y4), (7, .int z7), (8, .int y16)] [.int p27] by
        refine q_if_eq (pc := 107) hX 162 (by decide) dL_weekOf_107 (fun c => ?_) (fun c => ?_)
        · rw [if_pos c] at hp27
          refine q_iconst (pc := 162) hX (0) rfl dL_weekOf_162 ?_
          refine q_lo [0, 1, 2, 3, 4, 6, 7, 8] rfl ?_
          cases hp27
          exact Jp27
        · rw [if_neg c] at hp27
          refine q_iload (pc := 110) hX 7 rfl dL_weekOf_110 ?_
          refine q_iload (pc := 112) hX 9 rfl dL_weekOf_112 ?_
          refine q_icmp_le (pc := 114) hX 134 (by decide) dL_weekOf_114 (fun c => ?_) (fun c => ?_)
          · rw [if_pos c] at hp27
            refine q_iload (pc := 134) hX 7 rfl dL_weekOf_134 ?_
            refine q_iload (pc := 136) hX 9 rfl dL_weekOf_136 ?_
            refine q_icmp_ge (pc := 138) hX 158 (by decide) dL_weekOf_138 (fun c => ?_) (fun c => ?_)
            · rw [if_pos c] at hp27
              refine q_iconst (pc := 158) hX (1) rfl dL_weekOf_158 ?_
              refine q_goto (pc := 159) hX 163 (by decide) dL_weekOf_159 ?_
              refine q_lo [0, 1, 2, 3, 4, 6, 7, 8] rfl ?_
              cases hp27
              exact Jp27
            · rw [if_neg c] at hp27
              refine q_aload_n (pc := 141) hX 0 rfl rfl dL_weekOf_141 ?_
              refine q_iload (pc := 142) hX 6 rfl dL_weekOf_142 ?_
              obtain ⟨v21, hv21, hp27⟩ := ob_bind hp27
              refine r_iald (pc := 144) (id := 26) (n := 21) hX (ar26 ha) (fun _ _ => rfl) hv21 dL_weekOf_144 ?_
              refine q_bipush (pc := 145) hX (15) (by decide) dL_weekOf_145 ?_
              refine q_irem (pc := 147) hX (by decide) dL_weekOf_147 ?_
              refine q_aload_n (pc := 148) hX 0 rfl rfl dL_weekOf_148 ?_
              refine q_iload (pc := 149) hX 8 rfl dL_weekOf_149 ?_
              obtain ⟨v22, hv22, hp27⟩ := ob_bind hp27
              refine r_iald (pc := 151) (id := 26) (n := 21) hX (ar26 ha) (fun _ _ => rfl) hv22 dL_weekOf_151 ?_
              refine q_bipush (pc := 152) hX (15) (by decide) dL_weekOf_152 ?_
              refine q_irem (pc := 154) hX (by decide) dL_weekOf_154 ?_
              refine q_icmp_gt (pc := 155) hX 162 (by decide) dL_weekOf_155 (fun c => ?_) (fun c => ?_)
              · rw [if_pos c] at hp27
                refine q_iconst (pc := 162) hX (0) rfl dL_weekOf_162 ?_
                refine q_lo [0, 1, 2, 3, 4, 6, 7, 8] rfl ?_
                cases hp27
                exact Jp27
              · rw [if_neg c] at hp27
                refine q_iconst (pc := 158) hX (1) rfl dL_weekOf_158 ?_
                refine q_goto (pc := 159) hX 163 (by decide) dL_weekOf_159 ?_
                refine q_lo [0, 1, 2, 3, 4, 6, 7, 8] rfl ?_
                cases hp27
                exact Jp27
          · rw [if_neg c] at hp27
            refine q_aload_n (pc := 117) hX 0 rfl rfl dL_weekOf_117 ?_
            refine q_iload (pc := 118) hX 6 rfl dL_weekOf_118 ?_
            obtain ⟨v23, hv23, hp27⟩ := ob_bind hp27
            refine r_iald (pc := 120) (id := 26) (n := 21) hX (ar26 ha) (fun _ _ => rfl) hv23 dL_weekOf_120 ?_
            refine q_bipush (pc := 121) hX (15) (by decide) dL_weekOf_121 ?_
            refine q_irem (pc := 123) hX (by decide) dL_weekOf_123 ?_
            refine q_aload_n (pc := 124) hX 0 rfl rfl dL_weekOf_124 ?_
            refine q_iload (pc := 125) hX 8 rfl dL_weekOf_125 ?_
            obtain ⟨v24, hv24, hp27⟩ := ob_bind hp27
            refine r_iald (pc := 127) (id := 26) (n := 21) hX (ar26 ha) (fun _ _ => rfl) hv24 dL_weekOf_127 ?_
            refine q_bipush (pc := 128) hX (15) (by decide) dL_weekOf_128 ?_
            refine q_irem (pc := 130) hX (by decide) dL_weekOf_130 ?_
            refine q_icmp_le (pc := 131) hX 162 (by decide) dL_weekOf_131 (fun c => ?_) (fun c => ?_)
            · rw [if_pos c] at hp27
              refine q_iconst (pc := 162) hX (0) rfl dL_weekOf_162 ?_
              refine q_lo [0, 1, 2, 3, 4, 6, 7, 8] rfl ?_
              cases hp27
              exact Jp27
            · rw [if_neg c] at hp27
              refine q_iload (pc := 134) hX 7 rfl dL_weekOf_134 ?_
              refine q_iload (pc := 136) hX 9 rfl dL_weekOf_136 ?_
              refine q_icmp_ge (pc := 138) hX 158 (by decide) dL_weekOf_138 (fun c => ?_) (fun c => ?_)
              · rw [if_pos c] at hp27
                refine q_iconst (pc := 158) hX (1) rfl dL_weekOf_158 ?_
                refine q_goto (pc := 159) hX 163 (by decide) dL_weekOf_159 ?_
                refine q_lo [0, 1, 2, 3, 4, 6, 7, 8] rfl ?_
                cases hp27
                exact Jp27
              · rw [if_neg c] at hp27
                refine q_aload_n (pc := 141) hX 0 rfl rfl dL_weekOf_141 ?_
                refine q_iload (pc := 142) hX 6 rfl dL_weekOf_142 ?_
                obtain ⟨v25, hv25, hp27⟩ := ob_bind hp27
                refine r_iald (pc := 144) (id := 26) (n := 21) hX (ar26 ha) (fun _ _ => rfl) hv25 dL_weekOf_144 ?_
                refine q_bipush (pc := 145) hX (15) (by decide) dL_weekOf_145 ?_
                refine q_irem (pc := 147) hX (by decide) dL_weekOf_147 ?_
                refine q_aload_n (pc := 148) hX 0 rfl rfl dL_weekOf_148 ?_
                refine q_iload (pc := 149) hX 8 rfl dL_weekOf_149 ?_
                obtain ⟨v26, hv26, hp27⟩ := ob_bind hp27
                refine r_iald (pc := 151) (id := 26) (n := 21) hX (ar26 ha) (fun _ _ => rfl) hv26 dL_weekOf_151 ?_
                refine q_bipush (pc := 152) hX (15) (by decide) dL_weekOf_152 ?_
                refine q_irem (pc := 154) hX (by decide) dL_weekOf_154 ?_
                refine q_icmp_gt (pc := 155) hX 162 (by decide) dL_weekOf_155 (fun c => ?_) (fun c => ?_)
                · rw [if_pos c] at hp27
                  refine q_iconst (pc := 162) hX (0) rfl dL_weekOf_162 ?_
                  refine q_lo [0, 1, 2, 3, 4, 6, 7, 8] rfl ?_
                  cases hp27
                  exact Jp27
                · rw [if_neg c] at hp27
                  refine q_iconst (pc := 158) hX (1) rfl dL_weekOf_158 ?_
                  refine q_goto (pc := 159) hX 163 (by decide) dL_weekOf_159 ?_
                  refine q_lo [0, 1, 2, 3, 4, 6, 7, 8] rfl ?_
                  cases hp27
                  exact Jp27
      refine q_istore (pc := 163) (lo' := [(0, .ref (o 26)), (1, .ref (o 27)), (2, .int x2), (3, .int z12), (4, .int z14), (5, .int p27), (6, .int y4), (7, .int z7), (8, .int y16)]) hX [1, 2, 3, 4, 5, 0, 6, 7, 8] (by decide) rfl dL_weekOf_163 ?_
      obtain ⟨z28, hz28⟩ : ∃ z : Int32, z = y16 + 3 := ⟨_, rfl⟩
      have hE := bnd_nm hz28 hE
      refine q_iinc (pc := 165) (lo' := [(0, .ref (o 26)), (1, .ref (o 27)), (2, .int x2), (3, .int z12), (4, .int z14), (5, .int p27), (6, .int y4), (7, .int z7), (8, .int z28)]) hX 8 z28 [1, 2, 3, 4, 5, 6, 7, 8, 0] rfl (by rw [hz28]; rfl) (by decide) rfl dL_weekOf_165 ?_
      refine q_goto (pc := 168) hX 84 (by decide) dL_weekOf_168 ?_
      exact ih _ _ p29 hE hx

set_option maxHeartbeats 4000000 in
theorem l_L_weekOf_11 {X : Cx} (hX : CxOK X RL cL_weekOf 10 0 0 0 0 (some .int)) (hE0 : CxE X []) {o : Nat → Nat} {hn : Nat} {M : Mem} {x2 : Int32} {G : Mel} (ha : o 0 = 1) : ∀ (f : Nat) (y1 : Int32) (y2 : Int32) (y3 : Int32) (y4 : Int32) (p31 : Int32 × Int32 × Int32 × Int32), L_L_weekOf_11 M x2 f y1 y2 y3 y4 = some p31 → WM X o hn M G 0 0 177 10 [(0, .ref (o 26)), (1, .ref (o 27)), (2, .int x2), (3, .int p31.1), (4, .int p31.2.1), (5, .int p31.2.2.1), (6, .int p31.2.2.2)] [] → WM X o hn M G 0 0 11 10 [(0, .ref (o 26)), (1, .ref (o 27)), (2, .int x2), (3, .int y1), (4, .int y2), (5, .int y3), (6, .int y4)] [] := by
  intro f
  induction f with
  | zero => intro y1 y2 y3 y4 p31 hE; simp [L_L_weekOf_11] at hE
  | succ f ih =>
    intro y1 y2 y3 y4 p31 hE hx
    rw [L_L_weekOf_11] at hE
    refine q_iload (pc := 11) hX 6 rfl dL_weekOf_11 ?_
    refine q_bipush (pc := 13) hX (21) (by decide) dL_weekOf_13 ?_
    refine q_icmp_ge (pc := 15) hX 177 (by decide) dL_weekOf_15 (fun c => ?_) (fun c => ?_)
    · rw [if_pos c] at hE
      cases hE
      exact hx
    · rw [if_neg c] at hE
      refine q_aload_n (pc := 18) hX 1 rfl rfl dL_weekOf_18 ?_
      refine q_iload (pc := 19) hX 6 rfl dL_weekOf_19 ?_
      obtain ⟨v5, hv5, hE⟩ := ob_bind hE
      refine r_iald (pc := 21) (id := 27) (n := 21) hX (ar27 ha) (fun _ _ => rfl) hv5 dL_weekOf_21 ?_
      refine q_aload_n (pc := 22) hX 0 rfl rfl dL_weekOf_22 ?_
      refine q_iload (pc := 23) hX 6 rfl dL_weekOf_23 ?_
      obtain ⟨v6, hv6, hE⟩ := ob_bind hE
      refine r_iald (pc := 25) (id := 26) (n := 21) hX (ar26 ha) (fun _ _ => rfl) hv6 dL_weekOf_25 ?_
      refine q_bipush (pc := 26) hX (15) (by decide) dL_weekOf_26 ?_
      refine q_idiv (pc := 28) hX (by decide) dL_weekOf_28 ?_
      refine q_isub (pc := 29) hX dL_weekOf_29 ?_
      refine q_nm (fun z7 hz7 => ?_)
      have hE := bnd_nm hz7 hE
      refine q_istore (pc := 30) (lo' := [(0, .ref (o 26)), (1, .ref (o 27)), (2, .int x2), (3, .int y1), (4, .int y2), (5, .int y3), (6, .int y4), (7, .int z7)]) hX [1, 2, 3, 4, 5, 6, 7, 0] (by decide) rfl dL_weekOf_30 ?_
      refine q_iload (pc := 32) hX 5 rfl dL_weekOf_32 ?_
      obtain ⟨p10, hp10, hE⟩ := ob_bind hE
      suffices Jp10 : WM X o hn M G 0 0 63 10 [(0, .ref (o 26)), (1, .ref (o 27)), (2, .int x2), (3, .int y1), (4, .int y2), (6, .int y4), (7, .int z7)] [.int p10] by
        refine q_if_eq (pc := 34) hX 62 (by decide) dL_weekOf_34 (fun c => ?_) (fun c => ?_)
        · rw [if_pos c] at hp10
          refine q_iconst (pc := 62) hX (0) rfl dL_weekOf_62 ?_
          refine q_lo [0, 1, 2, 3, 4, 6, 7] rfl ?_
          cases hp10
          exact Jp10
        · rw [if_neg c] at hp10
          refine q_iload (pc := 37) hX 7 rfl dL_weekOf_37 ?_
          refine q_if_eq (pc := 39) hX 58 (by decide) dL_weekOf_39 (fun c => ?_) (fun c => ?_)
          · rw [if_pos c] at hp10
            refine q_iconst (pc := 58) hX (1) rfl dL_weekOf_58 ?_
            refine q_goto (pc := 59) hX 63 (by decide) dL_weekOf_59 ?_
            refine q_lo [0, 1, 2, 3, 4, 6, 7] rfl ?_
            cases hp10
            exact Jp10
          · rw [if_neg c] at hp10
            refine q_iload (pc := 42) hX 7 rfl dL_weekOf_42 ?_
            refine q_iconst (pc := 44) hX (1) rfl dL_weekOf_44 ?_
            refine q_icmp_ne (pc := 45) hX 62 (by decide) dL_weekOf_45 (fun c => ?_) (fun c => ?_)
            · rw [if_neg c] at hp10
              refine q_iconst (pc := 62) hX (0) rfl dL_weekOf_62 ?_
              refine q_lo [0, 1, 2, 3, 4, 6, 7] rfl ?_
              cases hp10
              exact Jp10
            · rw [if_pos c] at hp10
              refine q_aload_n (pc := 48) hX 0 rfl rfl dL_weekOf_48 ?_
              refine q_iload (pc := 49) hX 6 rfl dL_weekOf_49 ?_
              obtain ⟨v9, hv9, hp10⟩ := ob_bind hp10
              refine r_iald (pc := 51) (id := 26) (n := 21) hX (ar26 ha) (fun _ _ => rfl) hv9 dL_weekOf_51 ?_
              refine q_bipush (pc := 52) hX (15) (by decide) dL_weekOf_52 ?_
              refine q_irem (pc := 54) hX (by decide) dL_weekOf_54 ?_
              refine q_if_le (pc := 55) hX 62 (by decide) dL_weekOf_55 (fun c => ?_) (fun c => ?_)
              · rw [if_pos c] at hp10
                refine q_iconst (pc := 62) hX (0) rfl dL_weekOf_62 ?_
                refine q_lo [0, 1, 2, 3, 4, 6, 7] rfl ?_
                cases hp10
                exact Jp10
              · rw [if_neg c] at hp10
                refine q_iconst (pc := 58) hX (1) rfl dL_weekOf_58 ?_
                refine q_goto (pc := 59) hX 63 (by decide) dL_weekOf_59 ?_
                refine q_lo [0, 1, 2, 3, 4, 6, 7] rfl ?_
                cases hp10
                exact Jp10
      refine q_istore (pc := 63) (lo' := [(0, .ref (o 26)), (1, .ref (o 27)), (2, .int x2), (3, .int y1), (4, .int y2), (5, .int p10), (6, .int y4), (7, .int z7)]) hX [1, 2, 3, 4, 5, 0, 6, 7] (by decide) rfl dL_weekOf_63 ?_
      refine q_iload_n (pc := 65) hX 3 rfl rfl dL_weekOf_65 ?_
      refine q_aload_n (pc := 66) hX 0 rfl rfl dL_weekOf_66 ?_
      refine q_iload (pc := 67) hX 6 rfl dL_weekOf_67 ?_
      obtain ⟨v11, hv11, hE⟩ := ob_bind hE
      refine r_iald (pc := 69) (id := 26) (n := 21) hX (ar26 ha) (fun _ _ => rfl) hv11 dL_weekOf_69 ?_
      refine q_iadd (pc := 70) hX dL_weekOf_70 ?_
      refine q_nm (fun z12 hz12 => ?_)
      have hE := bnd_nm hz12 hE
      refine q_istore_n (pc := 71) (lo' := [(0, .ref (o 26)), (1, .ref (o 27)), (2, .int x2), (3, .int z12), (4, .int y2), (5, .int p10), (6, .int y4), (7, .int z7)]) hX [1, 2, 3, 0, 4, 5, 6, 7] rfl (by decide) rfl dL_weekOf_71 ?_
      refine q_iload (pc := 72) hX 4 rfl dL_weekOf_72 ?_
      refine q_aload_n (pc := 74) hX 1 rfl rfl dL_weekOf_74 ?_
      refine q_iload (pc := 75) hX 6 rfl dL_weekOf_75 ?_
      obtain ⟨v13, hv13, hE⟩ := ob_bind hE
      refine r_iald (pc := 77) (id := 27) (n := 21) hX (ar27 ha) (fun _ _ => rfl) hv13 dL_weekOf_77 ?_
      refine q_iadd (pc := 78) hX dL_weekOf_78 ?_
      refine q_nm (fun z14 hz14 => ?_)
      have hE := bnd_nm hz14 hE
      refine q_istore (pc := 79) (lo' := [(0, .ref (o 26)), (1, .ref (o 27)), (2, .int x2), (3, .int z12), (4, .int z14), (5, .int p10), (6, .int y4), (7, .int z7)]) hX [1, 2, 3, 4, 0, 5, 6, 7] (by decide) rfl dL_weekOf_79 ?_
      refine q_iload_n (pc := 81) hX 2 rfl rfl dL_weekOf_81 ?_
      refine q_istore (pc := 82) (lo' := [(0, .ref (o 26)), (1, .ref (o 27)), (2, .int x2), (3, .int z12), (4, .int z14), (5, .int p10), (6, .int y4), (7, .int z7), (8, .int x2)]) hX [1, 2, 3, 4, 5, 6, 7, 8, 0] (by decide) rfl dL_weekOf_82 ?_
      obtain ⟨p29, hp29, hE⟩ := ob_bind hE
      refine l_L_weekOf_84 hX hE0 ha FU _ _ p29 hp29 ?_
      obtain ⟨z30, hz30⟩ : ∃ z : Int32, z = y4 + 3 := ⟨_, rfl⟩
      have hE := bnd_nm hz30 hE
      refine q_iinc (pc := 171) (lo' := [(0, .ref (o 26)), (1, .ref (o 27)), (2, .int x2), (3, .int z12), (4, .int z14), (5, .int p29.1), (6, .int z30), (7, .int z7), (8, .int p29.2)]) hX 6 z30 [1, 2, 3, 4, 5, 6, 0, 7, 8] rfl (by rw [hz30]; rfl) (by decide) rfl dL_weekOf_171 ?_
      refine q_goto (pc := 174) hX 11 (by decide) dL_weekOf_174 ?_
      refine q_lo [0, 1, 2, 3, 4, 5, 6] rfl ?_
      exact ih _ _ _ _ p31 hE hx

set_option maxHeartbeats 4000000 in
theorem c_L_weekOf {Y : Lx} {o : Nat → Nat} {hn : Nat} {M : Mem} {G : Mel} {x2 : Int32} {rr : Int32} (ha : o 0 = 1) (hE : s_L_weekOf M x2 = some (rr)) : MI Y yL_weekOf cL_weekOf 10 (some .int) 0 0 0 0 [.ref (o 26), .ref (o 27), .int x2] o hn M G (.inl (some (.int rr))) M G := by
  refine MI.of (by decide +kernel) (Nat.le_of_ble_eq_true rfl) (fun X hY hX hE0 hR => ?_)
  change CxOK X RL cL_weekOf 10 0 0 0 0 (some .int) at hX
  show WM X o hn M G 0 0 0 10 [(0, .ref (o 26)), (1, .ref (o 27)), (2, .int x2)] []
  unfold s_L_weekOf at hE
  refine q_iconst (pc := 0) hX (0) rfl dL_weekOf_0 ?_
  refine q_istore_n (pc := 1) (lo' := [(0, .ref (o 26)), (1, .ref (o 27)), (2, .int x2), (3, .int 0)]) hX [1, 2, 3, 0] rfl (by decide) rfl dL_weekOf_1 ?_
  refine q_iconst (pc := 2) hX (0) rfl dL_weekOf_2 ?_
  refine q_istore (pc := 3) (lo' := [(0, .ref (o 26)), (1, .ref (o 27)), (2, .int x2), (3, .int 0), (4, .int 0)]) hX [1, 2, 3, 4, 0] (by decide) rfl dL_weekOf_3 ?_
  refine q_iconst (pc := 5) hX (1) rfl dL_weekOf_5 ?_
  refine q_istore (pc := 6) (lo' := [(0, .ref (o 26)), (1, .ref (o 27)), (2, .int x2), (3, .int 0), (4, .int 0), (5, .int 1)]) hX [1, 2, 3, 4, 5, 0] (by decide) rfl dL_weekOf_6 ?_
  refine q_iload_n (pc := 8) hX 2 rfl rfl dL_weekOf_8 ?_
  refine q_istore (pc := 9) (lo' := [(0, .ref (o 26)), (1, .ref (o 27)), (2, .int x2), (3, .int 0), (4, .int 0), (5, .int 1), (6, .int x2)]) hX [1, 2, 3, 4, 5, 6, 0] (by decide) rfl dL_weekOf_9 ?_
  obtain ⟨p31, hp31, hE⟩ := ob_bind hE
  refine l_L_weekOf_11 hX hE0 ha FU _ _ _ _ p31 hp31 ?_
  refine q_bipush (pc := 177) hX (15) (by decide) dL_weekOf_177 ?_
  refine q_iload (pc := 179) hX 4 rfl dL_weekOf_179 ?_
  refine q_imul (pc := 181) hX dL_weekOf_181 ?_
  refine q_iload_n (pc := 182) hX 3 rfl rfl dL_weekOf_182 ?_
  refine q_isub (pc := 183) hX dL_weekOf_183 ?_
  refine q_nm (fun z32 hz32 => ?_)
  have hE := bnd_nm hz32 hE
  refine q_istore (pc := 184) (lo' := [(0, .ref (o 26)), (1, .ref (o 27)), (2, .int x2), (3, .int p31.1), (4, .int p31.2.1), (5, .int p31.2.2.1), (6, .int z32)]) hX [1, 2, 3, 4, 5, 6, 0] (by decide) rfl dL_weekOf_184 ?_
  refine q_iload (pc := 186) hX 5 rfl dL_weekOf_186 ?_
  refine q_if_eq (pc := 188) hX 210 (by decide) dL_weekOf_188 (fun c => ?_) (fun c => ?_)
  · rw [if_pos c] at hE
    refine q_iconst (pc := 210) hX (-1) rfl dL_weekOf_210 ?_
    cases hE
    exact q_iret hX hR (by decide) (by decide) dL_weekOf_211
  · rw [if_neg c] at hE
    refine q_iload (pc := 191) hX 6 rfl dL_weekOf_191 ?_
    refine q_bipush (pc := 193) hX (7) (by decide) dL_weekOf_193 ?_
    refine q_icmp_gt (pc := 195) hX 210 (by decide) dL_weekOf_195 (fun c => ?_) (fun c => ?_)
    · rw [if_pos c] at hE
      refine q_iconst (pc := 210) hX (-1) rfl dL_weekOf_210 ?_
      cases hE
      exact q_iret hX hR (by decide) (by decide) dL_weekOf_211
    · rw [if_neg c] at hE
      refine q_iload (pc := 198) hX 6 rfl dL_weekOf_198 ?_
      refine q_bipush (pc := 200) hX (-7) (by decide) dL_weekOf_200 ?_
      refine q_icmp_lt (pc := 202) hX 210 (by decide) dL_weekOf_202 (fun c => ?_) (fun c => ?_)
      · rw [if_pos c] at hE
        refine q_iconst (pc := 210) hX (-1) rfl dL_weekOf_210 ?_
        cases hE
        exact q_iret hX hR (by decide) (by decide) dL_weekOf_211
      · rw [if_neg c] at hE
        refine q_iload (pc := 205) hX 4 rfl dL_weekOf_205 ?_
        refine q_goto (pc := 207) hX 211 (by decide) dL_weekOf_207 ?_
        cases hE
        exact q_iret hX hR (by decide) (by decide) dL_weekOf_211

set_option maxHeartbeats 4000000 in
theorem l_L_isPaid_108 {X : Cx} (hX : CxOK X RL cL_isPaid 14 8 187 0 0 (some .boolean)) (hE0 : CxE X []) {o : Nat → Nat} {hn : Nat} {G : Mel} (ha : o 0 = 1) : ∀ (f : Nat) (y10 : Int32) (y11 : Int32) (M12 : Mem) (p22 : Int32 × Int32 × Mem), L_L_isPaid_108 hn f y10 y11 M12 = some p22 → WM X o hn p22.2.2 G 0 0 203 14 [(0, .ref (o 28)), (1, .ref (o 26)), (10, .int p22.1), (11, .int p22.2.1)] [] → WM X o hn M12 G 0 0 108 14 [(0, .ref (o 28)), (1, .ref (o 26)), (10, .int y10), (11, .int y11)] [] := by
  intro f
  induction f with
  | zero => intro y10 y11 M12 p22 hE; simp [L_L_isPaid_108] at hE
  | succ f ih =>
    intro y10 y11 M12 p22 hE hx
    rw [L_L_isPaid_108] at hE
    refine q_iload (pc := 108) hX 3 rfl dL_isPaid_108 ?_
    refine q_bipush (pc := 110) hX (7) (by decide) dL_isPaid_110 ?_
    refine q_icmp_ge (pc := 112) hX 203 (by decide) dL_isPaid_112 (fun c => ?_) (fun c => ?_)
    · rw [if_pos c] at hE
      cases hE
      exact hx
    · rw [if_neg c] at hE
      refine q_aload_n (pc := 115) hX 0 rfl rfl dL_isPaid_115 ?_
      refine q_iconst (pc := 116) hX (0) rfl dL_isPaid_116 ?_
      refine q_iload (pc := 117) hX 3 rfl dL_isPaid_117 ?_
      obtain ⟨r13, hr13, hE⟩ := ob_bind hE
      have hkr13 : r13.1 = 0 := by
        by_cases h9 : r13.1 = 0
        · exact h9
        · rw [if_pos h9] at hE
          cases hE
      rw [if_neg (fun h => h hkr13)] at hE
      refine q_callV (pc := 119) (id := 28) (As := [.int 0, .int y11]) (rest := []) (rv := some (.int r13.2.1)) (st' := [.int r13.2.1]) hX (c_X6_workedOn (thr_z hr13 hkr13)) (vl_L_34) (lt46 (by decide)) rfl rfl rfl pd_yX6_workedOn rfl ⟨by decide, by decide⟩ ⟨Nat.le_of_ble_eq_true rfl, Nat.le_of_ble_eq_true rfl⟩ rfl (Nat.le_of_ble_eq_true rfl) rfl dL_isPaid_119 ?_
      refine q_istore (pc := 122) (lo' := [(0, .ref (o 28)), (1, .ref (o 26)), (10, .int y10), (11, .int y11), (12, .int r13.2.1)]) hX [1, 2, 3, 4, 0] (by decide) rfl dL_isPaid_122 ?_
      refine q_aload_n (pc := 124) hX 1 rfl rfl dL_isPaid_124 ?_
      refine q_iconst (pc := 125) hX (3) rfl dL_isPaid_125 ?_
      refine q_iload (pc := 126) hX 3 rfl dL_isPaid_126 ?_
      refine q_imul (pc := 128) hX dL_isPaid_128 ?_
      obtain ⟨v14, hv14, hE⟩ := ob_bind hE
      refine r_iald (pc := 129) (id := 26) (n := 21) hX (ar26 ha) (fun _ _ => rfl) hv14 dL_isPaid_129 ?_
      refine q_aload_n (pc := 130) hX 1 rfl rfl dL_isPaid_130 ?_
      refine q_iconst (pc := 131) hX (3) rfl dL_isPaid_131 ?_
      refine q_iload (pc := 132) hX 3 rfl dL_isPaid_132 ?_
      refine q_imul (pc := 134) hX dL_isPaid_134 ?_
      refine q_iconst (pc := 135) hX (1) rfl dL_isPaid_135 ?_
      refine q_iadd (pc := 136) hX dL_isPaid_136 ?_
      obtain ⟨v15, hv15, hE⟩ := ob_bind hE
      refine r_iald (pc := 137) (id := 26) (n := 21) hX (ar26 ha) (fun _ _ => rfl) hv15 dL_isPaid_137 ?_
      refine q_iadd (pc := 138) hX dL_isPaid_138 ?_
      refine q_nm (fun z16 hz16 => ?_)
      have hE := bnd_nm hz16 hE
      refine q_istore (pc := 139) (lo' := [(0, .ref (o 28)), (1, .ref (o 26)), (10, .int y10), (11, .int y11), (12, .int r13.2.1), (13, .int z16)]) hX [1, 2, 3, 4, 5, 0] (by decide) rfl dL_isPaid_139 ?_
      refine q_iload (pc := 141) hX 2 rfl dL_isPaid_141 ?_
      obtain ⟨p20, hp20, hE⟩ := ob_bind hE
      suffices Jp20 : WM X o hn r13.2.2 G 0 0 195 14 [(0, .ref (o 28)), (1, .ref (o 26)), (11, .int y11)] [.int p20] by
        refine q_if_eq (pc := 143) hX 194 (by decide) dL_isPaid_143 (fun c => ?_) (fun c => ?_)
        · rw [if_pos c] at hp20
          refine q_iconst (pc := 194) hX (0) rfl dL_isPaid_194 ?_
          refine q_lo [0, 1, 3] rfl ?_
          cases hp20
          exact Jp20
        · rw [if_neg c] at hp20
          refine q_iload (pc := 146) hX 5 rfl dL_isPaid_146 ?_
          refine q_aload_n (pc := 148) hX 1 rfl rfl dL_isPaid_148 ?_
          refine q_iconst (pc := 149) hX (3) rfl dL_isPaid_149 ?_
          refine q_iload (pc := 150) hX 3 rfl dL_isPaid_150 ?_
          refine q_imul (pc := 152) hX dL_isPaid_152 ?_
          refine q_iconst (pc := 153) hX (2) rfl dL_isPaid_153 ?_
          refine q_iadd (pc := 154) hX dL_isPaid_154 ?_
          obtain ⟨v18, hv18, hp20⟩ := ob_bind hp20
          refine r_iald (pc := 155) (id := 26) (n := 21) hX (ar26 ha) (fun _ _ => rfl) hv18 dL_isPaid_155 ?_
          refine q_iadd (pc := 156) hX dL_isPaid_156 ?_
          refine q_iload (pc := 157) hX 4 rfl dL_isPaid_157 ?_
          refine q_icmp_gt (pc := 159) hX 194 (by decide) dL_isPaid_159 (fun c => ?_) (fun c => ?_)
          · rw [if_pos c] at hp20
            refine q_iconst (pc := 194) hX (0) rfl dL_isPaid_194 ?_
            refine q_lo [0, 1, 3] rfl ?_
            cases hp20
            exact Jp20
          · rw [if_neg c] at hp20
            refine q_iload (pc := 162) hX 4 rfl dL_isPaid_162 ?_
            refine q_sipush (pc := 164) hX (1440) (by decide) dL_isPaid_164 ?_
            refine q_icmp_gt (pc := 167) hX 194 (by decide) dL_isPaid_167 (fun c => ?_) (fun c => ?_)
            · rw [if_pos c] at hp20
              refine q_iconst (pc := 194) hX (0) rfl dL_isPaid_194 ?_
              refine q_lo [0, 1, 3] rfl ?_
              cases hp20
              exact Jp20
            · rw [if_neg c] at hp20
              refine q_aload_n (pc := 170) hX 1 rfl rfl dL_isPaid_170 ?_
              refine q_iconst (pc := 171) hX (3) rfl dL_isPaid_171 ?_
              refine q_iload (pc := 172) hX 3 rfl dL_isPaid_172 ?_
              refine q_imul (pc := 174) hX dL_isPaid_174 ?_
              obtain ⟨v19, hv19, hp20⟩ := ob_bind hp20
              refine r_iald (pc := 175) (id := 26) (n := 21) hX (ar26 ha) (fun _ _ => rfl) hv19 dL_isPaid_175 ?_
              refine q_sipush (pc := 176) hX (480) (by decide) dL_isPaid_176 ?_
              refine q_icmp_gt (pc := 179) hX 194 (by decide) dL_isPaid_179 (fun c => ?_) (fun c => ?_)
              · rw [if_pos c] at hp20
                refine q_iconst (pc := 194) hX (0) rfl dL_isPaid_194 ?_
                refine q_lo [0, 1, 3] rfl ?_
                cases hp20
                exact Jp20
              · rw [if_neg c] at hp20
                refine q_iload (pc := 182) hX 5 rfl dL_isPaid_182 ?_
                refine q_sipush (pc := 184) hX (720) (by decide) dL_isPaid_184 ?_
                refine q_icmp_gt (pc := 187) hX 194 (by decide) dL_isPaid_187 (fun c => ?_) (fun c => ?_)
                · rw [if_pos c] at hp20
                  refine q_iconst (pc := 194) hX (0) rfl dL_isPaid_194 ?_
                  refine q_lo [0, 1, 3] rfl ?_
                  cases hp20
                  exact Jp20
                · rw [if_neg c] at hp20
                  refine q_iconst (pc := 190) hX (1) rfl dL_isPaid_190 ?_
                  refine q_goto (pc := 191) hX 195 (by decide) dL_isPaid_191 ?_
                  refine q_lo [0, 1, 3] rfl ?_
                  cases hp20
                  exact Jp20
      refine q_istore (pc := 195) (lo' := [(0, .ref (o 28)), (1, .ref (o 26)), (10, .int p20), (11, .int y11)]) hX [1, 2, 0, 3] (by decide) rfl dL_isPaid_195 ?_
      obtain ⟨z21, hz21⟩ : ∃ z : Int32, z = y11 + 1 := ⟨_, rfl⟩
      have hE := bnd_nm hz21 hE
      refine q_iinc (pc := 197) (lo' := [(0, .ref (o 28)), (1, .ref (o 26)), (10, .int p20), (11, .int z21)]) hX 3 z21 [1, 2, 3, 0] rfl (by rw [hz21]; rfl) (by decide) rfl dL_isPaid_197 ?_
      refine q_goto (pc := 200) hX 108 (by decide) dL_isPaid_200 ?_
      exact ih _ _ _ p22 hE hx

set_option maxHeartbeats 4000000 in
theorem c_L_isPaid {Y : Lx} {o : Nat → Nat} {hn : Nat} {M : Mem} {G : Mel} {x3 : Int32} {x4 : Int32} {rr : Int32} {Mr : Mem} (ha : o 0 = 1) (hE : s_L_isPaid M hn x3 x4 = some (rr, Mr)) : MI Y yL_isPaid cL_isPaid 14 (some .boolean) 8 187 0 0 [.ref (o 28), .ref (o 26), .ref (o 27), .int x3, .int x4] o hn M G (.inl (some (.int rr))) Mr G := by
  refine MI.of (by decide +kernel) (Nat.le_of_ble_eq_true rfl) (fun X hY hX hE0 hR => ?_)
  change CxOK X RL cL_isPaid 14 8 187 0 0 (some .boolean) at hX
  show WM X o hn M G 0 0 0 14 [(0, .ref (o 28)), (1, .ref (o 26)), (2, .ref (o 27)), (3, .int x3), (4, .int x4)] []
  unfold s_L_isPaid at hE
  refine q_aload_n (pc := 0) hX 0 rfl rfl dL_isPaid_0 ?_
  refine q_aload_n (pc := 1) hX 1 rfl rfl dL_isPaid_1 ?_
  refine q_aload_n (pc := 2) hX 2 rfl rfl dL_isPaid_2 ?_
  obtain ⟨r1, hr1, hE⟩ := ob_bind hE
  refine q_callS (pc := 3) (As := [.ref (o 28), .ref (o 26), .ref (o 27)]) (rest := []) (rv := none) (st' := []) hX (c_L_reads ha hr1) (sl_L_17) pd_yL_reads rfl ⟨by decide, by decide⟩ ⟨Nat.le_of_ble_eq_true rfl, Nat.le_of_ble_eq_true rfl⟩ rfl (Nat.le_of_ble_eq_true rfl) rfl dL_isPaid_3 ?_
  refine q_aload_n (pc := 6) hX 1 rfl rfl dL_isPaid_6 ?_
  refine q_aload_n (pc := 7) hX 2 rfl rfl dL_isPaid_7 ?_
  refine q_iconst (pc := 8) hX (0) rfl dL_isPaid_8 ?_
  obtain ⟨r2, hr2, hE⟩ := ob_bind hE
  refine q_callS (pc := 9) (As := [.ref (o 26), .ref (o 27), .int 0]) (rest := []) (rv := some (.int r2)) (st' := [.int r2]) hX (c_L_weekOf ha hr2) (sl_L_23) pd_yL_weekOf rfl ⟨by decide, by decide⟩ ⟨Nat.le_of_ble_eq_true rfl, Nat.le_of_ble_eq_true rfl⟩ rfl (Nat.le_of_ble_eq_true rfl) rfl dL_isPaid_9 ?_
  refine q_istore (pc := 12) (lo' := [(0, .ref (o 28)), (1, .ref (o 26)), (2, .ref (o 27)), (3, .int x3), (4, .int x4), (5, .int r2)]) hX [1, 2, 3, 4, 5, 0] (by decide) rfl dL_isPaid_12 ?_
  refine q_aload_n (pc := 14) hX 1 rfl rfl dL_isPaid_14 ?_
  refine q_aload_n (pc := 15) hX 2 rfl rfl dL_isPaid_15 ?_
  refine q_iconst (pc := 16) hX (1) rfl dL_isPaid_16 ?_
  obtain ⟨r3, hr3, hE⟩ := ob_bind hE
  refine q_callS (pc := 17) (As := [.ref (o 26), .ref (o 27), .int 1]) (rest := []) (rv := some (.int r3)) (st' := [.int r3]) hX (c_L_weekOf ha hr3) (sl_L_23) pd_yL_weekOf rfl ⟨by decide, by decide⟩ ⟨Nat.le_of_ble_eq_true rfl, Nat.le_of_ble_eq_true rfl⟩ rfl (Nat.le_of_ble_eq_true rfl) rfl dL_isPaid_17 ?_
  refine q_istore (pc := 20) (lo' := [(0, .ref (o 28)), (1, .ref (o 26)), (2, .ref (o 27)), (3, .int x3), (4, .int x4), (5, .int r2), (6, .int r3)]) hX [1, 2, 3, 4, 5, 6, 0] (by decide) rfl dL_isPaid_20 ?_
  refine q_aload_n (pc := 22) hX 1 rfl rfl dL_isPaid_22 ?_
  refine q_aload_n (pc := 23) hX 2 rfl rfl dL_isPaid_23 ?_
  refine q_iconst (pc := 24) hX (2) rfl dL_isPaid_24 ?_
  obtain ⟨r4, hr4, hE⟩ := ob_bind hE
  refine q_callS (pc := 25) (As := [.ref (o 26), .ref (o 27), .int 2]) (rest := []) (rv := some (.int r4)) (st' := [.int r4]) hX (c_L_weekOf ha hr4) (sl_L_23) pd_yL_weekOf rfl ⟨by decide, by decide⟩ ⟨Nat.le_of_ble_eq_true rfl, Nat.le_of_ble_eq_true rfl⟩ rfl (Nat.le_of_ble_eq_true rfl) rfl dL_isPaid_25 ?_
  refine q_istore (pc := 28) (lo' := [(0, .ref (o 28)), (1, .ref (o 26)), (2, .ref (o 27)), (3, .int x3), (4, .int x4), (5, .int r2), (6, .int r3), (7, .int r4)]) hX [1, 2, 3, 4, 5, 6, 7, 0] (by decide) rfl dL_isPaid_28 ?_
  refine q_iload_n (pc := 30) hX 3 rfl rfl dL_isPaid_30 ?_
  refine q_iconst (pc := 31) hX (2) rfl dL_isPaid_31 ?_
  refine q_iload (pc := 32) hX 5 rfl dL_isPaid_32 ?_
  refine q_imul (pc := 34) hX dL_isPaid_34 ?_
  refine q_iconst (pc := 35) hX (3) rfl dL_isPaid_35 ?_
  refine q_iload (pc := 36) hX 6 rfl dL_isPaid_36 ?_
  refine q_imul (pc := 38) hX dL_isPaid_38 ?_
  refine q_iadd (pc := 39) hX dL_isPaid_39 ?_
  refine q_iconst (pc := 40) hX (4) rfl dL_isPaid_40 ?_
  refine q_iload (pc := 41) hX 7 rfl dL_isPaid_41 ?_
  refine q_imul (pc := 43) hX dL_isPaid_43 ?_
  refine q_iadd (pc := 44) hX dL_isPaid_44 ?_
  refine q_imul (pc := 45) hX dL_isPaid_45 ?_
  refine q_iconst (pc := 46) hX (4) rfl dL_isPaid_46 ?_
  refine q_iadd (pc := 47) hX dL_isPaid_47 ?_
  refine q_bipush (pc := 48) hX (8) (by decide) dL_isPaid_48 ?_
  refine q_idiv (pc := 50) hX (by decide) dL_isPaid_50 ?_
  refine q_nm (fun z5 hz5 => ?_)
  have hE := bnd_nm hz5 hE
  refine q_istore (pc := 51) (lo' := [(0, .ref (o 28)), (1, .ref (o 26)), (2, .ref (o 27)), (3, .int x3), (4, .int x4), (5, .int r2), (6, .int r3), (7, .int r4), (8, .int z5)]) hX [1, 2, 3, 4, 5, 6, 7, 8, 0] (by decide) rfl dL_isPaid_51 ?_
  refine q_aload_n (pc := 53) hX 0 rfl rfl dL_isPaid_53 ?_
  refine q_iconst (pc := 54) hX (0) rfl dL_isPaid_54 ?_
  obtain ⟨r6, hr6, hE⟩ := ob_bind hE
  have hkr6 : r6.1 = 0 := by
    by_cases h9 : r6.1 = 0
    · exact h9
    · rw [if_pos h9] at hE
      cases hE
  rw [if_neg (fun h => h hkr6)] at hE
  refine q_callV (pc := 55) (id := 28) (As := [.int 0]) (rest := []) (rv := some (.int r6.2.1)) (st' := [.int r6.2.1]) hX (c_X6_premiumPay (thr_z hr6 hkr6)) (vl_L_27) (lt46 (by decide)) rfl rfl rfl pd_yX6_premiumPay rfl ⟨by decide, by decide⟩ ⟨Nat.le_of_ble_eq_true rfl, Nat.le_of_ble_eq_true rfl⟩ rfl (Nat.le_of_ble_eq_true rfl) rfl dL_isPaid_55 ?_
  refine q_istore (pc := 58) (lo' := [(0, .ref (o 28)), (1, .ref (o 26)), (2, .ref (o 27)), (3, .int x3), (4, .int x4), (5, .int r2), (6, .int r3), (7, .int r4), (8, .int z5), (9, .int r6.2.1)]) hX [1, 2, 3, 4, 5, 6, 7, 8, 9, 0] (by decide) rfl dL_isPaid_58 ?_
  refine q_iload (pc := 60) hX 5 rfl dL_isPaid_60 ?_
  obtain ⟨p9, hp9, hE⟩ := ob_bind hE
  suffices Jp9 : WM X o hn p9.2 G 0 0 103 14 [(0, .ref (o 28)), (1, .ref (o 26))] [.int p9.1] by
    refine q_if_lt (pc := 62) hX 102 (by decide) dL_isPaid_62 (fun c => ?_) (fun c => ?_)
    · rw [if_pos c] at hp9
      refine q_iconst (pc := 102) hX (0) rfl dL_isPaid_102 ?_
      refine q_lo [0, 1] rfl ?_
      cases hp9
      exact Jp9
    · rw [if_neg c] at hp9
      refine q_iload (pc := 65) hX 6 rfl dL_isPaid_65 ?_
      refine q_if_lt (pc := 67) hX 102 (by decide) dL_isPaid_67 (fun c => ?_) (fun c => ?_)
      · rw [if_pos c] at hp9
        refine q_iconst (pc := 102) hX (0) rfl dL_isPaid_102 ?_
        refine q_lo [0, 1] rfl ?_
        cases hp9
        exact Jp9
      · rw [if_neg c] at hp9
        refine q_iload (pc := 70) hX 7 rfl dL_isPaid_70 ?_
        refine q_if_lt (pc := 72) hX 102 (by decide) dL_isPaid_72 (fun c => ?_) (fun c => ?_)
        · rw [if_pos c] at hp9
          refine q_iconst (pc := 102) hX (0) rfl dL_isPaid_102 ?_
          refine q_lo [0, 1] rfl ?_
          cases hp9
          exact Jp9
        · rw [if_neg c] at hp9
          refine q_aload_n (pc := 75) hX 0 rfl rfl dL_isPaid_75 ?_
          refine q_iconst (pc := 76) hX (0) rfl dL_isPaid_76 ?_
          obtain ⟨r8, hr8, hp9⟩ := ob_bind hp9
          have hkr8 : r8.1 = 0 := by
            by_cases h9 : r8.1 = 0
            · exact h9
            · rw [if_pos h9] at hp9
              cases hp9
          rw [if_neg (fun h => h hkr8)] at hp9
          refine q_callV (pc := 77) (id := 28) (As := [.int 0]) (rest := []) (rv := some (.int r8.2.1)) (st' := [.int r8.2.1]) hX (c_X6_pay (thr_z hr8 hkr8)) (vl_L_31) (lt46 (by decide)) rfl rfl rfl pd_yX6_pay rfl ⟨by decide, by decide⟩ ⟨Nat.le_of_ble_eq_true rfl, Nat.le_of_ble_eq_true rfl⟩ rfl (Nat.le_of_ble_eq_true rfl) rfl dL_isPaid_77 ?_
          refine q_iload (pc := 80) hX 8 rfl dL_isPaid_80 ?_
          refine q_iload (pc := 82) hX 9 rfl dL_isPaid_82 ?_
          refine q_iadd (pc := 84) hX dL_isPaid_84 ?_
          refine q_icmp_ne (pc := 85) hX 102 (by decide) dL_isPaid_85 (fun c => ?_) (fun c => ?_)
          · rw [if_neg c] at hp9
            refine q_iconst (pc := 102) hX (0) rfl dL_isPaid_102 ?_
            refine q_lo [0, 1] rfl ?_
            cases hp9
            exact Jp9
          · rw [if_pos c] at hp9
            refine q_iload (pc := 88) hX 4 rfl dL_isPaid_88 ?_
            refine q_if_ne (pc := 90) hX 98 (by decide) dL_isPaid_90 (fun c => ?_) (fun c => ?_)
            · rw [if_neg c] at hp9
              refine q_iconst (pc := 98) hX (1) rfl dL_isPaid_98 ?_
              refine q_goto (pc := 99) hX 103 (by decide) dL_isPaid_99 ?_
              refine q_lo [0, 1] rfl ?_
              cases hp9
              exact Jp9
            · rw [if_pos c] at hp9
              refine q_iload (pc := 93) hX 9 rfl dL_isPaid_93 ?_
              refine q_if_ne (pc := 95) hX 102 (by decide) dL_isPaid_95 (fun c => ?_) (fun c => ?_)
              · rw [if_neg c] at hp9
                refine q_iconst (pc := 102) hX (0) rfl dL_isPaid_102 ?_
                refine q_lo [0, 1] rfl ?_
                cases hp9
                exact Jp9
              · rw [if_pos c] at hp9
                refine q_iconst (pc := 98) hX (1) rfl dL_isPaid_98 ?_
                refine q_goto (pc := 99) hX 103 (by decide) dL_isPaid_99 ?_
                refine q_lo [0, 1] rfl ?_
                cases hp9
                exact Jp9
  refine q_istore (pc := 103) (lo' := [(0, .ref (o 28)), (1, .ref (o 26)), (10, .int p9.1)]) hX [1, 2, 0] (by decide) rfl dL_isPaid_103 ?_
  refine q_iconst (pc := 105) hX (0) rfl dL_isPaid_105 ?_
  refine q_istore (pc := 106) (lo' := [(0, .ref (o 28)), (1, .ref (o 26)), (10, .int p9.1), (11, .int 0)]) hX [1, 2, 3, 0] (by decide) rfl dL_isPaid_106 ?_
  obtain ⟨p22, hp22, hE⟩ := ob_bind hE
  refine l_L_isPaid_108 hX hE0 ha FU _ _ _ p22 hp22 ?_
  refine q_iload (pc := 203) hX 2 rfl dL_isPaid_203 ?_
  obtain ⟨v23, hv23, hE⟩ := ob_bind hE
  obtain ⟨hqv23, hbv23⟩ := bchk_ok hv23
  rw [hqv23]
  cases hE
  exact q_zret hX hbv23 hR (by decide) (by decide) dL_isPaid_205

set_option maxHeartbeats 4000000 in
theorem c_L_isEmpty {Y : Lx} {o : Nat → Nat} {hn : Nat} {M : Mem} {G : Mel} {x1 : Int32} {rr : Int32} {Mr : Mem} (hE : s_L_isEmpty M hn x1 = some (rr, Mr)) : MI Y yL_isEmpty cL_isEmpty 2 (some .boolean) 7 162 0 0 [.ref (o 28), .int x1] o hn M G (.inl (some (.int rr))) Mr G := by
  refine MI.of (by decide +kernel) (Nat.le_of_ble_eq_true rfl) (fun X hY hX hE0 hR => ?_)
  change CxOK X RL cL_isEmpty 2 7 162 0 0 (some .boolean) at hX
  show WM X o hn M G 0 0 0 2 [(0, .ref (o 28)), (1, .int x1)] []
  unfold s_L_isEmpty at hE
  refine q_aload_n (pc := 0) hX 0 rfl rfl dL_isEmpty_0 ?_
  refine q_iload_n (pc := 1) hX 1 rfl rfl dL_isEmpty_1 ?_
  obtain ⟨r1, hr1, hE⟩ := ob_bind hE
  have hkr1 : r1.1 = 0 := by
    by_cases h9 : r1.1 = 0
    · exact h9
    · rw [if_pos h9] at hE
      cases hE
  rw [if_neg (fun h => h hkr1)] at hE
  refine q_callV (pc := 2) (id := 28) (As := [.int x1]) (rest := []) (rv := some (.int r1.2.1)) (st' := [.int r1.2.1]) hX (c_X6_pay (thr_z hr1 hkr1)) (vl_L_31) (lt46 (by decide)) rfl rfl rfl pd_yX6_pay rfl ⟨by decide, by decide⟩ ⟨Nat.le_of_ble_eq_true rfl, Nat.le_of_ble_eq_true rfl⟩ rfl (Nat.le_of_ble_eq_true rfl) rfl dL_isEmpty_2 ?_
  refine q_if_ne (pc := 5) hX 52 (by decide) dL_isEmpty_5 (fun c => ?_) (fun c => ?_)
  · rw [if_neg c] at hE
    refine q_iconst (pc := 52) hX (0) rfl dL_isEmpty_52 ?_
    cases hE
    exact q_zret hX (Or.inl rfl) hR (by decide) (by decide) dL_isEmpty_53
  · rw [if_pos c] at hE
    refine q_aload_n (pc := 8) hX 0 rfl rfl dL_isEmpty_8 ?_
    refine q_iload_n (pc := 9) hX 1 rfl rfl dL_isEmpty_9 ?_
    obtain ⟨r2, hr2, hE⟩ := ob_bind hE
    have hkr2 : r2.1 = 0 := by
      by_cases h9 : r2.1 = 0
      · exact h9
      · rw [if_pos h9] at hE
        cases hE
    rw [if_neg (fun h => h hkr2)] at hE
    refine q_callV (pc := 10) (id := 28) (As := [.int x1]) (rest := []) (rv := some (.int r2.2.1)) (st' := [.int r2.2.1]) hX (c_X6_shifts (thr_z hr2 hkr2)) (vl_L_38) (lt46 (by decide)) rfl rfl rfl pd_yX6_shifts rfl ⟨by decide, by decide⟩ ⟨Nat.le_of_ble_eq_true rfl, Nat.le_of_ble_eq_true rfl⟩ rfl (Nat.le_of_ble_eq_true rfl) rfl dL_isEmpty_10 ?_
    refine q_if_ne (pc := 13) hX 52 (by decide) dL_isEmpty_13 (fun c => ?_) (fun c => ?_)
    · rw [if_neg c] at hE
      refine q_iconst (pc := 52) hX (0) rfl dL_isEmpty_52 ?_
      cases hE
      exact q_zret hX (Or.inl rfl) hR (by decide) (by decide) dL_isEmpty_53
    · rw [if_pos c] at hE
      refine q_aload_n (pc := 16) hX 0 rfl rfl dL_isEmpty_16 ?_
      refine q_iload_n (pc := 17) hX 1 rfl rfl dL_isEmpty_17 ?_
      obtain ⟨r3, hr3, hE⟩ := ob_bind hE
      have hkr3 : r3.1 = 0 := by
        by_cases h9 : r3.1 = 0
        · exact h9
        · rw [if_pos h9] at hE
          cases hE
      rw [if_neg (fun h => h hkr3)] at hE
      refine q_callV (pc := 18) (id := 28) (As := [.int x1]) (rest := []) (rv := some (.int r3.2.1)) (st' := [.int r3.2.1]) hX (c_X6_stretches (thr_z hr3 hkr3)) (vl_L_41) (lt46 (by decide)) rfl rfl rfl pd_yX6_stretches rfl ⟨by decide, by decide⟩ ⟨Nat.le_of_ble_eq_true rfl, Nat.le_of_ble_eq_true rfl⟩ rfl (Nat.le_of_ble_eq_true rfl) rfl dL_isEmpty_18 ?_
      refine q_if_ne (pc := 21) hX 52 (by decide) dL_isEmpty_21 (fun c => ?_) (fun c => ?_)
      · rw [if_neg c] at hE
        refine q_iconst (pc := 52) hX (0) rfl dL_isEmpty_52 ?_
        cases hE
        exact q_zret hX (Or.inl rfl) hR (by decide) (by decide) dL_isEmpty_53
      · rw [if_pos c] at hE
        refine q_aload_n (pc := 24) hX 0 rfl rfl dL_isEmpty_24 ?_
        refine q_iload_n (pc := 25) hX 1 rfl rfl dL_isEmpty_25 ?_
        obtain ⟨r4, hr4, hE⟩ := ob_bind hE
        have hkr4 : r4.1 = 0 := by
          by_cases h9 : r4.1 = 0
          · exact h9
          · rw [if_pos h9] at hE
            cases hE
        rw [if_neg (fun h => h hkr4)] at hE
        refine q_callV (pc := 26) (id := 28) (As := [.int x1]) (rest := []) (rv := some (.int r4.2.1)) (st' := [.int r4.2.1]) hX (c_X6_overlap (thr_z hr4 hkr4)) (vl_L_44) (lt46 (by decide)) rfl rfl rfl pd_yX6_overlap rfl ⟨by decide, by decide⟩ ⟨Nat.le_of_ble_eq_true rfl, Nat.le_of_ble_eq_true rfl⟩ rfl (Nat.le_of_ble_eq_true rfl) rfl dL_isEmpty_26 ?_
        refine q_if_ne (pc := 29) hX 52 (by decide) dL_isEmpty_29 (fun c => ?_) (fun c => ?_)
        · rw [if_neg c] at hE
          refine q_iconst (pc := 52) hX (0) rfl dL_isEmpty_52 ?_
          cases hE
          exact q_zret hX (Or.inl rfl) hR (by decide) (by decide) dL_isEmpty_53
        · rw [if_pos c] at hE
          refine q_aload_n (pc := 32) hX 0 rfl rfl dL_isEmpty_32 ?_
          refine q_iload_n (pc := 33) hX 1 rfl rfl dL_isEmpty_33 ?_
          obtain ⟨r5, hr5, hE⟩ := ob_bind hE
          have hkr5 : r5.1 = 0 := by
            by_cases h9 : r5.1 = 0
            · exact h9
            · rw [if_pos h9] at hE
              cases hE
          rw [if_neg (fun h => h hkr5)] at hE
          refine q_callV (pc := 34) (id := 28) (As := [.int x1]) (rest := []) (rv := some (.int r5.2.1)) (st' := [.int r5.2.1]) hX (c_X6_longestStretch (thr_z hr5 hkr5)) (vl_L_47) (lt46 (by decide)) rfl rfl rfl pd_yX6_longestStretch rfl ⟨by decide, by decide⟩ ⟨Nat.le_of_ble_eq_true rfl, Nat.le_of_ble_eq_true rfl⟩ rfl (Nat.le_of_ble_eq_true rfl) rfl dL_isEmpty_34 ?_
          refine q_if_ne (pc := 37) hX 52 (by decide) dL_isEmpty_37 (fun c => ?_) (fun c => ?_)
          · rw [if_neg c] at hE
            refine q_iconst (pc := 52) hX (0) rfl dL_isEmpty_52 ?_
            cases hE
            exact q_zret hX (Or.inl rfl) hR (by decide) (by decide) dL_isEmpty_53
          · rw [if_pos c] at hE
            refine q_aload_n (pc := 40) hX 0 rfl rfl dL_isEmpty_40 ?_
            refine q_iload_n (pc := 41) hX 1 rfl rfl dL_isEmpty_41 ?_
            obtain ⟨r6, hr6, hE⟩ := ob_bind hE
            have hkr6 : r6.1 = 0 := by
              by_cases h9 : r6.1 = 0
              · exact h9
              · rw [if_pos h9] at hE
                cases hE
            rw [if_neg (fun h => h hkr6)] at hE
            refine q_callV (pc := 42) (id := 28) (As := [.int x1]) (rest := []) (rv := some (.int r6.2.1)) (st' := [.int r6.2.1]) hX (c_X6_repairedShifts (thr_z hr6 hkr6)) (vl_L_50) (lt46 (by decide)) rfl rfl rfl pd_yX6_repairedShifts rfl ⟨by decide, by decide⟩ ⟨Nat.le_of_ble_eq_true rfl, Nat.le_of_ble_eq_true rfl⟩ rfl (Nat.le_of_ble_eq_true rfl) rfl dL_isEmpty_42 ?_
            refine q_if_ne (pc := 45) hX 52 (by decide) dL_isEmpty_45 (fun c => ?_) (fun c => ?_)
            · rw [if_neg c] at hE
              refine q_iconst (pc := 52) hX (0) rfl dL_isEmpty_52 ?_
              cases hE
              exact q_zret hX (Or.inl rfl) hR (by decide) (by decide) dL_isEmpty_53
            · rw [if_pos c] at hE
              refine q_iconst (pc := 48) hX (1) rfl dL_isEmpty_48 ?_
              refine q_goto (pc := 49) hX 53 (by decide) dL_isEmpty_49 ?_
              cases hE
              exact q_zret hX (Or.inr rfl) hR (by decide) (by decide) dL_isEmpty_53
end
section
/-! the meaning of the law's body, in two pieces, printed by program -/
def L_L_law_41 (L : Nat) (xs : Nat → Int32) (r2 : Int32) : Nat → Int32 → Mem → Option (Int32 × Mem)
  | 0, _, _ => none
  | f + 1, y3, M4 =>
    if r2 ≤ y3 then
      some (y3, M4)
    else
      (s_L_cell L xs (2 + y3)).bind fun v5 =>
      (s_L_low v5 127).bind fun r6 =>
      (s_L_cell L xs (2 + y3)).bind fun v7 =>
      (s_L_low (v7 >>> (7 &&& 31)) 1440).bind fun r8 =>
      (s_L_cell L xs (2 + y3)).bind fun v9 =>
      (s_L_low (v9 >>> (12 &&& 31)) 1440).bind fun r10 =>
      (s_L_cell L xs (2 + y3)).bind fun v11 =>
      (s_L_low (v11 >>> (9 &&& 31)) 900).bind fun r12 =>
      (s_X6_addPremium M4 (1 + r6) r8 r10 (1 + r12)).bind fun r13 =>
      if ¬ r13.1 = 0 then none else
      bnd (y3 + 1) fun z14 : Int32 =>
      L_L_law_41 L xs r2 f z14 r13.2.2

def s_L_law1 (L : Nat) (xs : Nat → Int32) (M : Mem) : Option (Int32 × Mem) :=
  (s_L_cell L xs 1).bind fun v1 =>
  (s_L_low v1 4).bind fun r2 =>
  (L_L_law_41 L xs r2 FU 0 M).bind fun p15 =>
  some (r2, p15.2)

def L_L_law_177 (hn : Nat) (L : Nat) (xs : Nat → Int32) (y3 : Int32) (z8 : Int32) : Nat → Int32 → Mem → Option (Int32 × Mem)
  | 0, _, _ => none
  | f + 1, y9, M10 =>
    if z8 ≤ y9 then
      some (y9, M10)
    else
      (s_L_cell L xs ((7 + (20 * y3)) + y9)).bind fun v11 =>
      (s_L_cell L xs ((17 + (20 * y3)) + y9)).bind fun v12 =>
      (s_L_low v11 7).bind fun r13 =>
      (s_L_low (v11 >>> (3 &&& 31)) 1400).bind fun r14 =>
      bnd ((1440 * r13) + r14) fun z15 : Int32 =>
      (s_L_low (v12 >>> (12 &&& 31)) 3).bind fun r16 =>
      bnd (α := Int32) (
        if r16 = 0 then
          900
        else
          600) fun p18 =>
      (s_L_low v12 p18).bind fun r19 =>
      bnd ((z15 + 1) + r19) fun z20 : Int32 =>
      bnd (α := Int32) (
        if z20 ≤ 10080 then
          z20
        else
          10080) fun p22 =>
      (s_X6_enter M10 hn 0 z15 p22).bind fun r23 =>
      if ¬ r23.1 = 0 then none else
      (s_L_low (v11 >>> (14 &&& 31)) 4).bind fun r24 =>
      Option.bind (α := Mem) (
        if r24 = 0 then
          (s_L_low (v12 >>> (5 &&& 31)) 90).bind fun r26 =>
          Option.bind (α := Int32) (
            if ((z15 + 41) + r26) ≤ 10080 then
              (s_L_low (v12 >>> (5 &&& 31)) 90).bind fun r28 =>
              some ((z15 + 41) + r28)
            else
              some 10080) fun p29 =>
          (s_X6_enterBreak r23.2.2 hn 0 (z15 + 40) p29).bind fun r30 =>
          if ¬ r30.1 = 0 then none else
          some r30.2.2
        else
          some r23.2.2) fun p31 =>
      bnd (y9 + 1) fun z32 : Int32 =>
      L_L_law_177 hn L xs y3 z8 f z32 p31

def L_L_law_147 (hn : Nat) (L : Nat) (xs : Nat → Int32) (x2 : Int32) (x3 : Int32) : Nat → Int64 → Int32 → Int32 → Mem → Mel → Option (Int64 × Int32 × Int32 × Mem × Mel)
  | 0, _, _, _, _, _ => none
  | f + 1, y1, y2, y3, M4, G5 =>
    if 4 ≤ y3 then
      some (y1, y2, y3, M4, G5)
    else
      (s_L_cell L xs (6 + (20 * y3))).bind fun v6 =>
      (s_L_low v6 9).bind fun r7 =>
      bnd (1 + r7) fun z8 : Int32 =>
      (L_L_law_177 hn L xs y3 z8 FU 0 M4).bind fun p33 =>
      bnd (α := Int32) (
        if x3 ≤ 0 then
          0
        else
          1) fun p35 =>
      (s_L_isPaid p33.2 hn x2 p35).bind fun r36 =>
      if r36.1 = 0 then
        none
      else
        (s_X6_pay r36.2 hn 0).bind fun r37 =>
        if ¬ r37.1 = 0 then none else
        (s_X6_closeWeek r37.2.2 G5 hn 0).bind fun r38 =>
        if ¬ r38.1 = 0 then none else
        bnd (y1 + r38.2.1.toInt64) fun z39 : Int64 =>
        bnd (y2 + 1) fun z40 : Int32 =>
        if r38.2.1 = r37.2.1 then
          (s_X6_earned r38.2.2.2 hn 0).bind fun r41 =>
          if ¬ r41.1 = 0 then none else
          if r41.2 = z39 then
            (s_X6_closedWeeks r38.2.2.1 hn 0).bind fun r42 =>
            if ¬ r42.1 = 0 then none else
            if r42.2 = z40 then
              (s_L_isEmpty r38.2.2.1 hn 0).bind fun r43 =>
              if r43.1 = 0 then
                none
              else
                bnd (y3 + 1) fun z44 : Int32 =>
                L_L_law_147 hn L xs x2 x3 f z39 z40 z44 r43.2 r38.2.2.2
            else
              none
          else
            none
        else
          none

def s_L_law2 (L : Nat) (xs : Nat → Int32) (M : Mem) (G : Mel) (hn : Nat) (x2 : Int32) (x3 : Int32) : Option (Unit) :=
  (L_L_law_147 hn L xs x2 x3 FU 0 0 0 M G).bind fun p45 =>
  some ()
end
section
set_option maxHeartbeats 4000000 in
theorem l_L_law_41 {X : Cx} (hX : CxOK X RL cL_law 16 12 454 600104 7301314 (some .boolean)) (hE0 : CxE X []) {o : Nat → Nat} {hn : Nat} {G : Mel} {x2 : Int32} {r2 : Int32} {b : Nat} {L : Nat} {xs : Nat → Int32} (hS : ScrOK X b L xs) : ∀ (f : Nat) (y3 : Int32) (M4 : Mem) (p15 : Int32 × Mem), L_L_law_41 L xs r2 f y3 M4 = some p15 → WM X o hn p15.2 G 600104 7301314 126 16 [(0, .ref b), (1, .ref (o 28)), (2, .int x2), (3, .int r2), (4, .int p15.1)] [] → WM X o hn M4 G 600104 7301314 41 16 [(0, .ref b), (1, .ref (o 28)), (2, .int x2), (3, .int r2), (4, .int y3)] [] := by
  intro f
  induction f with
  | zero => intro y3 M4 p15 hE; simp [L_L_law_41] at hE
  | succ f ih =>
    intro y3 M4 p15 hE hx
    rw [L_L_law_41] at hE
    refine q_iload (pc := 41) hX 4 rfl dL_law_41 ?_
    refine q_iload_n (pc := 43) hX 3 rfl rfl dL_law_43 ?_
    refine q_icmp_ge (pc := 44) hX 126 (by decide) dL_law_44 (fun c => ?_) (fun c => ?_)
    · rw [if_pos c] at hE
      cases hE
      exact hx
    · rw [if_neg c] at hE
      refine q_aload_n (pc := 47) hX 1 rfl rfl dL_law_47 ?_
      refine q_iconst (pc := 48) hX (1) rfl dL_law_48 ?_
      refine q_aload_n (pc := 49) hX 0 rfl rfl dL_law_49 ?_
      refine q_iconst (pc := 50) hX (2) rfl dL_law_50 ?_
      refine q_iload (pc := 51) hX 4 rfl dL_law_51 ?_
      refine q_iadd (pc := 53) hX dL_law_53 ?_
      obtain ⟨v5, hv5, hE⟩ := ob_bind hE
      refine q_cell (pc := 54) hX hS hv5 (Nat.le_of_ble_eq_true rfl) (Nat.le_of_ble_eq_true rfl) (Nat.le_of_ble_eq_true rfl) (Nat.le_of_ble_eq_true rfl) (Nat.le_of_ble_eq_true rfl) dL_law_54 ?_
      refine q_bipush (pc := 57) hX (127) (by decide) dL_law_57 ?_
      obtain ⟨r6, hr6, hE⟩ := ob_bind hE
      refine q_callS (pc := 59) (As := [.int v5, .int 127]) (rest := [.int 1, .ref (o 28)]) (rv := some (.int r6)) (st' := [.int r6, .int 1, .ref (o 28)]) hX (c_L_low hr6) (sl_L_58) pd_yL_low rfl ⟨by decide, by decide⟩ ⟨Nat.le_of_ble_eq_true rfl, Nat.le_of_ble_eq_true rfl⟩ rfl (Nat.le_of_ble_eq_true rfl) rfl dL_law_59 ?_
      refine q_iadd (pc := 62) hX dL_law_62 ?_
      refine q_aload_n (pc := 63) hX 0 rfl rfl dL_law_63 ?_
      refine q_iconst (pc := 64) hX (2) rfl dL_law_64 ?_
      refine q_iload (pc := 65) hX 4 rfl dL_law_65 ?_
      refine q_iadd (pc := 67) hX dL_law_67 ?_
      obtain ⟨v7, hv7, hE⟩ := ob_bind hE
      refine q_cell (pc := 68) hX hS hv7 (Nat.le_of_ble_eq_true rfl) (Nat.le_of_ble_eq_true rfl) (Nat.le_of_ble_eq_true rfl) (Nat.le_of_ble_eq_true rfl) (Nat.le_of_ble_eq_true rfl) dL_law_68 ?_
      refine q_bipush (pc := 71) hX (7) (by decide) dL_law_71 ?_
      refine q_ishr (pc := 73) hX dL_law_73 ?_
      refine q_sipush (pc := 74) hX (1440) (by decide) dL_law_74 ?_
      obtain ⟨r8, hr8, hE⟩ := ob_bind hE
      refine q_callS (pc := 77) (As := [.int (v7 >>> (7 &&& 31)), .int 1440]) (rest := [.int (1 + r6), .ref (o 28)]) (rv := some (.int r8)) (st' := [.int r8, .int (1 + r6), .ref (o 28)]) hX (c_L_low hr8) (sl_L_58) pd_yL_low rfl ⟨by decide, by decide⟩ ⟨Nat.le_of_ble_eq_true rfl, Nat.le_of_ble_eq_true rfl⟩ rfl (Nat.le_of_ble_eq_true rfl) rfl dL_law_77 ?_
      refine q_aload_n (pc := 80) hX 0 rfl rfl dL_law_80 ?_
      refine q_iconst (pc := 81) hX (2) rfl dL_law_81 ?_
      refine q_iload (pc := 82) hX 4 rfl dL_law_82 ?_
      refine q_iadd (pc := 84) hX dL_law_84 ?_
      obtain ⟨v9, hv9, hE⟩ := ob_bind hE
      refine q_cell (pc := 85) hX hS hv9 (Nat.le_of_ble_eq_true rfl) (Nat.le_of_ble_eq_true rfl) (Nat.le_of_ble_eq_true rfl) (Nat.le_of_ble_eq_true rfl) (Nat.le_of_ble_eq_true rfl) dL_law_85 ?_
      refine q_bipush (pc := 88) hX (12) (by decide) dL_law_88 ?_
      refine q_ishr (pc := 90) hX dL_law_90 ?_
      refine q_sipush (pc := 91) hX (1440) (by decide) dL_law_91 ?_
      obtain ⟨r10, hr10, hE⟩ := ob_bind hE
      refine q_callS (pc := 94) (As := [.int (v9 >>> (12 &&& 31)), .int 1440]) (rest := [.int r8, .int (1 + r6), .ref (o 28)]) (rv := some (.int r10)) (st' := [.int r10, .int r8, .int (1 + r6), .ref (o 28)]) hX (c_L_low hr10) (sl_L_58) pd_yL_low rfl ⟨by decide, by decide⟩ ⟨Nat.le_of_ble_eq_true rfl, Nat.le_of_ble_eq_true rfl⟩ rfl (Nat.le_of_ble_eq_true rfl) rfl dL_law_94 ?_
      refine q_iconst (pc := 97) hX (1) rfl dL_law_97 ?_
      refine q_aload_n (pc := 98) hX 0 rfl rfl dL_law_98 ?_
      refine q_iconst (pc := 99) hX (2) rfl dL_law_99 ?_
      refine q_iload (pc := 100) hX 4 rfl dL_law_100 ?_
      refine q_iadd (pc := 102) hX dL_law_102 ?_
      obtain ⟨v11, hv11, hE⟩ := ob_bind hE
      refine q_cell (pc := 103) hX hS hv11 (Nat.le_of_ble_eq_true rfl) (Nat.le_of_ble_eq_true rfl) (Nat.le_of_ble_eq_true rfl) (Nat.le_of_ble_eq_true rfl) (Nat.le_of_ble_eq_true rfl) dL_law_103 ?_
      refine q_bipush (pc := 106) hX (9) (by decide) dL_law_106 ?_
      refine q_ishr (pc := 108) hX dL_law_108 ?_
      refine q_sipush (pc := 109) hX (900) (by decide) dL_law_109 ?_
      obtain ⟨r12, hr12, hE⟩ := ob_bind hE
      refine q_callS (pc := 112) (As := [.int (v11 >>> (9 &&& 31)), .int 900]) (rest := [.int 1, .int r10, .int r8, .int (1 + r6), .ref (o 28)]) (rv := some (.int r12)) (st' := [.int r12, .int 1, .int r10, .int r8, .int (1 + r6), .ref (o 28)]) hX (c_L_low hr12) (sl_L_58) pd_yL_low rfl ⟨by decide, by decide⟩ ⟨Nat.le_of_ble_eq_true rfl, Nat.le_of_ble_eq_true rfl⟩ rfl (Nat.le_of_ble_eq_true rfl) rfl dL_law_112 ?_
      refine q_iadd (pc := 115) hX dL_law_115 ?_
      obtain ⟨r13, hr13, hE⟩ := ob_bind hE
      have hkr13 : r13.1 = 0 := by
        by_cases h9 : r13.1 = 0
        · exact h9
        · rw [if_pos h9] at hE
          cases hE
      rw [if_neg (fun h => h hkr13)] at hE
      refine q_callV (pc := 116) (id := 28) (As := [.int (1 + r6), .int r8, .int r10, .int (1 + r12)]) (rest := []) (rv := some (.int r13.2.1)) (st' := [.int r13.2.1]) hX (c_X6_addPremium (thr_z hr13 hkr13)) (vl_L_64) (lt46 (by decide)) rfl rfl rfl pd_yX6_addPremium rfl ⟨by decide, by decide⟩ ⟨Nat.le_of_ble_eq_true rfl, Nat.le_of_ble_eq_true rfl⟩ rfl (Nat.le_of_ble_eq_true rfl) rfl dL_law_116 ?_
      refine q_pop (pc := 119) hX rfl dL_law_119 ?_
      obtain ⟨z14, hz14⟩ : ∃ z : Int32, z = y3 + 1 := ⟨_, rfl⟩
      have hE := bnd_nm hz14 hE
      refine q_iinc (pc := 120) (lo' := [(0, .ref b), (1, .ref (o 28)), (2, .int x2), (3, .int r2), (4, .int z14)]) hX 4 z14 [1, 2, 3, 4, 0] rfl (by rw [hz14]; rfl) (by decide) rfl dL_law_120 ?_
      refine q_goto (pc := 123) hX 41 (by decide) dL_law_123 ?_
      exact ih _ _ p15 hE hx

set_option maxHeartbeats 4000000 in
theorem g_s_L_law1 {X : Cx} (hX : CxOK X RL cL_law 16 12 454 600104 7301314 (some .boolean)) (hE0 : CxE X []) {b L : Nat} {xs : Nat → Int32} (hS : ScrOK X b L xs) {o : Nat → Nat} {hn : Nat} {M : Mem} {G : Mel} {x2 : Int32} {p : Int32 × Mem} (hE : s_L_law1 L xs M = some p) (hx : WM X o hn p.2 G 600104 7301314 126 16 [(0, .ref b), (1, .ref (o 28)), (2, .int x2), (3, .int p.1)] []) : WM X o hn M G 600104 7301314 28 16 [(0, .ref b), (1, .ref (o 28)), (2, .int x2)] [] := by
  unfold s_L_law1 at hE
  refine q_aload_n (pc := 28) hX 0 rfl rfl dL_law_28 ?_
  refine q_iconst (pc := 29) hX (1) rfl dL_law_29 ?_
  obtain ⟨v1, hv1, hE⟩ := ob_bind hE
  refine q_cell (pc := 30) hX hS hv1 (Nat.le_of_ble_eq_true rfl) (Nat.le_of_ble_eq_true rfl) (Nat.le_of_ble_eq_true rfl) (Nat.le_of_ble_eq_true rfl) (Nat.le_of_ble_eq_true rfl) dL_law_30 ?_
  refine q_iconst (pc := 33) hX (4) rfl dL_law_33 ?_
  obtain ⟨r2, hr2, hE⟩ := ob_bind hE
  refine q_callS (pc := 34) (As := [.int v1, .int 4]) (rest := []) (rv := some (.int r2)) (st' := [.int r2]) hX (c_L_low hr2) (sl_L_58) pd_yL_low rfl ⟨by decide, by decide⟩ ⟨Nat.le_of_ble_eq_true rfl, Nat.le_of_ble_eq_true rfl⟩ rfl (Nat.le_of_ble_eq_true rfl) rfl dL_law_34 ?_
  refine q_istore_n (pc := 37) (lo' := [(0, .ref b), (1, .ref (o 28)), (2, .int x2), (3, .int r2)]) hX [1, 2, 3, 0] rfl (by decide) rfl dL_law_37 ?_
  refine q_iconst (pc := 38) hX (0) rfl dL_law_38 ?_
  refine q_istore (pc := 39) (lo' := [(0, .ref b), (1, .ref (o 28)), (2, .int x2), (3, .int r2), (4, .int 0)]) hX [1, 2, 3, 4, 0] (by decide) rfl dL_law_39 ?_
  obtain ⟨p15, hp15, hE⟩ := ob_bind hE
  refine l_L_law_41 hX hE0 hS FU _ _ p15 hp15 ?_
  refine q_lo [0, 1, 2, 3] rfl ?_
  cases hE
  exact hx

set_option maxHeartbeats 4000000 in
theorem l_L_law_177 {X : Cx} (hX : CxOK X RL cL_law 16 12 454 600104 7301314 (some .boolean)) (hE0 : CxE X []) {o : Nat → Nat} {hn : Nat} {x2 : Int32} {x3 : Int32} {y1 : Int64} {y2 : Int32} {y3 : Int32} {G5 : Mel} {z8 : Int32} {b : Nat} {L : Nat} {xs : Nat → Int32} (ha : o 0 = 1) (hS : ScrOK X b L xs) : ∀ (f : Nat) (y9 : Int32) (M10 : Mem) (p33 : Int32 × Mem), L_L_law_177 hn L xs y3 z8 f y9 M10 = some p33 → WM X o hn p33.2 G5 600104 7301314 370 16 [(0, .ref b), (1, .ref (o 28)), (2, .int x2), (3, .int x3), (4, .ref (o 26)), (5, .ref (o 27)), (6, .long y1), (8, .int y2), (9, .int y3), (10, .int z8), (11, .int p33.1)] [] → WM X o hn M10 G5 600104 7301314 177 16 [(0, .ref b), (1, .ref (o 28)), (2, .int x2), (3, .int x3), (4, .ref (o 26)), (5, .ref (o 27)), (6, .long y1), (8, .int y2), (9, .int y3), (10, .int z8), (11, .int y9)] [] := by
  intro f
  induction f with
  | zero => intro y9 M10 p33 hE; simp [L_L_law_177] at hE
  | succ f ih =>
    intro y9 M10 p33 hE hx
    rw [L_L_law_177] at hE
    refine q_iload (pc := 177) hX 10 rfl dL_law_177 ?_
    refine q_iload (pc := 179) hX 9 rfl dL_law_179 ?_
    refine q_icmp_ge (pc := 181) hX 370 (by decide) dL_law_181 (fun c => ?_) (fun c => ?_)
    · rw [if_pos c] at hE
      cases hE
      exact hx
    · rw [if_neg c] at hE
      refine q_aload_n (pc := 184) hX 0 rfl rfl dL_law_184 ?_
      refine q_bipush (pc := 185) hX (7) (by decide) dL_law_185 ?_
      refine q_bipush (pc := 187) hX (20) (by decide) dL_law_187 ?_
      refine q_iload (pc := 189) hX 8 rfl dL_law_189 ?_
      refine q_imul (pc := 191) hX dL_law_191 ?_
      refine q_iadd (pc := 192) hX dL_law_192 ?_
      refine q_iload (pc := 193) hX 10 rfl dL_law_193 ?_
      refine q_iadd (pc := 195) hX dL_law_195 ?_
      obtain ⟨v11, hv11, hE⟩ := ob_bind hE
      refine q_cell (pc := 196) hX hS hv11 (Nat.le_of_ble_eq_true rfl) (Nat.le_of_ble_eq_true rfl) (Nat.le_of_ble_eq_true rfl) (Nat.le_of_ble_eq_true rfl) (Nat.le_of_ble_eq_true rfl) dL_law_196 ?_
      refine q_istore (pc := 199) (lo' := [(0, .ref b), (1, .ref (o 28)), (2, .int x2), (3, .int x3), (4, .ref (o 26)), (5, .ref (o 27)), (6, .long y1), (8, .int y2), (9, .int y3), (10, .int z8), (11, .int y9), (12, .int v11)]) hX [1, 2, 3, 4, 5, 6, 7, 8, 9, 10, 11, 0] (by decide) rfl dL_law_199 ?_
      refine q_aload_n (pc := 201) hX 0 rfl rfl dL_law_201 ?_
      refine q_bipush (pc := 202) hX (17) (by decide) dL_law_202 ?_
      refine q_bipush (pc := 204) hX (20) (by decide) dL_law_204 ?_
      refine q_iload (pc := 206) hX 8 rfl dL_law_206 ?_
      refine q_imul (pc := 208) hX dL_law_208 ?_
      refine q_iadd (pc := 209) hX dL_law_209 ?_
      refine q_iload (pc := 210) hX 10 rfl dL_law_210 ?_
      refine q_iadd (pc := 212) hX dL_law_212 ?_
      obtain ⟨v12, hv12, hE⟩ := ob_bind hE
      refine q_cell (pc := 213) hX hS hv12 (Nat.le_of_ble_eq_true rfl) (Nat.le_of_ble_eq_true rfl) (Nat.le_of_ble_eq_true rfl) (Nat.le_of_ble_eq_true rfl) (Nat.le_of_ble_eq_true rfl) dL_law_213 ?_
      refine q_istore (pc := 216) (lo' := [(0, .ref b), (1, .ref (o 28)), (2, .int x2), (3, .int x3), (4, .ref (o 26)), (5, .ref (o 27)), (6, .long y1), (8, .int y2), (9, .int y3), (10, .int z8), (11, .int y9), (12, .int v11), (13, .int v12)]) hX [1, 2, 3, 4, 5, 6, 7, 8, 9, 10, 11, 12, 0] (by decide) rfl dL_law_216 ?_
      refine q_sipush (pc := 218) hX (1440) (by decide) dL_law_218 ?_
      refine q_iload (pc := 221) hX 11 rfl dL_law_221 ?_
      refine q_bipush (pc := 223) hX (7) (by decide) dL_law_223 ?_
      obtain ⟨r13, hr13, hE⟩ := ob_bind hE
      refine q_callS (pc := 225) (As := [.int v11, .int 7]) (rest := [.int 1440]) (rv := some (.int r13)) (st' := [.int r13, .int 1440]) hX (c_L_low hr13) (sl_L_58) pd_yL_low rfl ⟨by decide, by decide⟩ ⟨Nat.le_of_ble_eq_true rfl, Nat.le_of_ble_eq_true rfl⟩ rfl (Nat.le_of_ble_eq_true rfl) rfl dL_law_225 ?_
      refine q_imul (pc := 228) hX dL_law_228 ?_
      refine q_iload (pc := 229) hX 11 rfl dL_law_229 ?_
      refine q_iconst (pc := 231) hX (3) rfl dL_law_231 ?_
      refine q_ishr (pc := 232) hX dL_law_232 ?_
      refine q_sipush (pc := 233) hX (1400) (by decide) dL_law_233 ?_
      obtain ⟨r14, hr14, hE⟩ := ob_bind hE
      refine q_callS (pc := 236) (As := [.int (v11 >>> (3 &&& 31)), .int 1400]) (rest := [.int (1440 * r13)]) (rv := some (.int r14)) (st' := [.int r14, .int (1440 * r13)]) hX (c_L_low hr14) (sl_L_58) pd_yL_low rfl ⟨by decide, by decide⟩ ⟨Nat.le_of_ble_eq_true rfl, Nat.le_of_ble_eq_true rfl⟩ rfl (Nat.le_of_ble_eq_true rfl) rfl dL_law_236 ?_
      refine q_iadd (pc := 239) hX dL_law_239 ?_
      refine q_nm (fun z15 hz15 => ?_)
      have hE := bnd_nm hz15 hE
      refine q_istore (pc := 240) (lo' := [(0, .ref b), (1, .ref (o 28)), (2, .int x2), (3, .int x3), (4, .ref (o 26)), (5, .ref (o 27)), (6, .long y1), (8, .int y2), (9, .int y3), (10, .int z8), (11, .int y9), (12, .int v11), (13, .int v12), (14, .int z15)]) hX [1, 2, 3, 4, 5, 6, 7, 8, 9, 10, 11, 12, 13, 0] (by decide) rfl dL_law_240 ?_
      refine q_iload (pc := 242) hX 13 rfl dL_law_242 ?_
      refine q_iconst (pc := 244) hX (1) rfl dL_law_244 ?_
      refine q_iadd (pc := 245) hX dL_law_245 ?_
      refine q_iload (pc := 246) hX 12 rfl dL_law_246 ?_
      refine q_iload (pc := 248) hX 12 rfl dL_law_248 ?_
      refine q_bipush (pc := 250) hX (12) (by decide) dL_law_250 ?_
      refine q_ishr (pc := 252) hX dL_law_252 ?_
      refine q_iconst (pc := 253) hX (3) rfl dL_law_253 ?_
      obtain ⟨r16, hr16, hE⟩ := ob_bind hE
      refine q_callS (pc := 254) (As := [.int (v12 >>> (12 &&& 31)), .int 3]) (rest := [.int v12, .int (z15 + 1)]) (rv := some (.int r16)) (st' := [.int r16, .int v12, .int (z15 + 1)]) hX (c_L_low hr16) (sl_L_58) pd_yL_low rfl ⟨by decide, by decide⟩ ⟨Nat.le_of_ble_eq_true rfl, Nat.le_of_ble_eq_true rfl⟩ rfl (Nat.le_of_ble_eq_true rfl) rfl dL_law_254 ?_
      obtain ⟨p18, hp18, hE⟩ := bnd_ob hE
      suffices Jp18 : WM X o hn M10 G5 600104 7301314 269 16 [(0, .ref b), (1, .ref (o 28)), (2, .int x2), (3, .int x3), (4, .ref (o 26)), (5, .ref (o 27)), (6, .long y1), (8, .int y2), (9, .int y3), (10, .int z8), (11, .int y9), (12, .int v11), (13, .int v12), (14, .int z15)] [.int p18, .int v12, .int (z15 + 1)] by
        refine q_if_ne (pc := 257) hX 266 (by decide) dL_law_257 (fun c => ?_) (fun c => ?_)
        · rw [if_neg c] at hp18
          refine q_sipush (pc := 266) hX (600) (by decide) dL_law_266 ?_
          cases hp18
          exact Jp18
        · rw [if_pos c] at hp18
          refine q_sipush (pc := 260) hX (900) (by decide) dL_law_260 ?_
          refine q_goto (pc := 263) hX 269 (by decide) dL_law_263 ?_
          cases hp18
          exact Jp18
      obtain ⟨r19, hr19, hE⟩ := ob_bind hE
      refine q_callS (pc := 269) (As := [.int v12, .int p18]) (rest := [.int (z15 + 1)]) (rv := some (.int r19)) (st' := [.int r19, .int (z15 + 1)]) hX (c_L_low hr19) (sl_L_58) pd_yL_low rfl ⟨by decide, by decide⟩ ⟨Nat.le_of_ble_eq_true rfl, Nat.le_of_ble_eq_true rfl⟩ rfl (Nat.le_of_ble_eq_true rfl) rfl dL_law_269 ?_
      refine q_iadd (pc := 272) hX dL_law_272 ?_
      refine q_nm (fun z20 hz20 => ?_)
      have hE := bnd_nm hz20 hE
      refine q_istore (pc := 273) (lo' := [(0, .ref b), (1, .ref (o 28)), (2, .int x2), (3, .int x3), (4, .ref (o 26)), (5, .ref (o 27)), (6, .long y1), (8, .int y2), (9, .int y3), (10, .int z8), (11, .int y9), (12, .int v11), (13, .int v12), (14, .int z15), (15, .int z20)]) hX [1, 2, 3, 4, 5, 6, 7, 8, 9, 10, 11, 12, 13, 14, 0] (by decide) rfl dL_law_273 ?_
      refine q_aload_n (pc := 275) hX 1 rfl rfl dL_law_275 ?_
      refine q_iconst (pc := 276) hX (0) rfl dL_law_276 ?_
      refine q_iload (pc := 277) hX 13 rfl dL_law_277 ?_
      refine q_iload (pc := 279) hX 14 rfl dL_law_279 ?_
      refine q_sipush (pc := 281) hX (10080) (by decide) dL_law_281 ?_
      obtain ⟨p22, hp22, hE⟩ := bnd_ob hE
      suffices Jp22 : WM X o hn M10 G5 600104 7301314 295 16 [(0, .ref b), (1, .ref (o 28)), (2, .int x2), (3, .int x3), (4, .ref (o 26)), (5, .ref (o 27)), (6, .long y1), (8, .int y2), (9, .int y3), (10, .int z8), (11, .int y9), (12, .int v11), (13, .int v12), (14, .int z15)] [.int p22, .int z15, .int 0, .ref (o 28)] by
        refine q_icmp_le (pc := 284) hX 293 (by decide) dL_law_284 (fun c => ?_) (fun c => ?_)
        · rw [if_pos c] at hp22
          refine q_iload (pc := 293) hX 14 rfl dL_law_293 ?_
          refine q_lo [0, 1, 2, 3, 4, 5, 6, 7, 8, 9, 10, 11, 12, 13] rfl ?_
          cases hp22
          exact Jp22
        · rw [if_neg c] at hp22
          refine q_sipush (pc := 287) hX (10080) (by decide) dL_law_287 ?_
          refine q_goto (pc := 290) hX 295 (by decide) dL_law_290 ?_
          refine q_lo [0, 1, 2, 3, 4, 5, 6, 7, 8, 9, 10, 11, 12, 13] rfl ?_
          cases hp22
          exact Jp22
      obtain ⟨r23, hr23, hE⟩ := ob_bind hE
      have hkr23 : r23.1 = 0 := by
        by_cases h9 : r23.1 = 0
        · exact h9
        · rw [if_pos h9] at hE
          cases hE
      rw [if_neg (fun h => h hkr23)] at hE
      refine q_callV (pc := 295) (id := 28) (As := [.int 0, .int z15, .int p22]) (rest := []) (rv := some (.int r23.2.1)) (st' := [.int r23.2.1]) hX (c_X6_enter (thr_z hr23 hkr23)) (vl_L_68) (lt46 (by decide)) rfl rfl rfl pd_yX6_enter rfl ⟨by decide, by decide⟩ ⟨Nat.le_of_ble_eq_true rfl, Nat.le_of_ble_eq_true rfl⟩ rfl (Nat.le_of_ble_eq_true rfl) rfl dL_law_295 ?_
      refine q_pop (pc := 298) hX rfl dL_law_298 ?_
      refine q_iload (pc := 299) hX 11 rfl dL_law_299 ?_
      refine q_bipush (pc := 301) hX (14) (by decide) dL_law_301 ?_
      refine q_ishr (pc := 303) hX dL_law_303 ?_
      refine q_iconst (pc := 304) hX (4) rfl dL_law_304 ?_
      obtain ⟨r24, hr24, hE⟩ := ob_bind hE
      refine q_callS (pc := 305) (As := [.int (v11 >>> (14 &&& 31)), .int 4]) (rest := []) (rv := some (.int r24)) (st' := [.int r24]) hX (c_L_low hr24) (sl_L_58) pd_yL_low rfl ⟨by decide, by decide⟩ ⟨Nat.le_of_ble_eq_true rfl, Nat.le_of_ble_eq_true rfl⟩ rfl (Nat.le_of_ble_eq_true rfl) rfl dL_law_305 ?_
      obtain ⟨p31, hp31, hE⟩ := ob_bind hE
      suffices Jp31 : WM X o hn p31 G5 600104 7301314 364 16 [(0, .ref b), (1, .ref (o 28)), (2, .int x2), (3, .int x3), (4, .ref (o 26)), (5, .ref (o 27)), (6, .long y1), (8, .int y2), (9, .int y3), (10, .int z8), (11, .int y9)] [] by
        refine q_if_ne (pc := 308) hX 364 (by decide) dL_law_308 (fun c => ?_) (fun c => ?_)
        · rw [if_neg c] at hp31
          refine q_lo [0, 1, 2, 3, 4, 5, 6, 7, 8, 9, 10] rfl ?_
          cases hp31
          exact Jp31
        · rw [if_pos c] at hp31
          refine q_aload_n (pc := 311) hX 1 rfl rfl dL_law_311 ?_
          refine q_iconst (pc := 312) hX (0) rfl dL_law_312 ?_
          refine q_iload (pc := 313) hX 13 rfl dL_law_313 ?_
          refine q_bipush (pc := 315) hX (40) (by decide) dL_law_315 ?_
          refine q_iadd (pc := 317) hX dL_law_317 ?_
          refine q_iload (pc := 318) hX 13 rfl dL_law_318 ?_
          refine q_bipush (pc := 320) hX (41) (by decide) dL_law_320 ?_
          refine q_iadd (pc := 322) hX dL_law_322 ?_
          refine q_iload (pc := 323) hX 12 rfl dL_law_323 ?_
          refine q_iconst (pc := 325) hX (5) rfl dL_law_325 ?_
          refine q_ishr (pc := 326) hX dL_law_326 ?_
          refine q_bipush (pc := 327) hX (90) (by decide) dL_law_327 ?_
          obtain ⟨r26, hr26, hp31⟩ := ob_bind hp31
          refine q_callS (pc := 329) (As := [.int (v12 >>> (5 &&& 31)), .int 90]) (rest := [.int (z15 + 41), .int (z15 + 40), .int 0, .ref (o 28)]) (rv := some (.int r26)) (st' := [.int r26, .int (z15 + 41), .int (z15 + 40), .int 0, .ref (o 28)]) hX (c_L_low hr26) (sl_L_58) pd_yL_low rfl ⟨by decide, by decide⟩ ⟨Nat.le_of_ble_eq_true rfl, Nat.le_of_ble_eq_true rfl⟩ rfl (Nat.le_of_ble_eq_true rfl) rfl dL_law_329 ?_
          refine q_iadd (pc := 332) hX dL_law_332 ?_
          refine q_sipush (pc := 333) hX (10080) (by decide) dL_law_333 ?_
          obtain ⟨p29, hp29, hp31⟩ := ob_bind hp31
          suffices Jp29 : WM X o hn r23.2.2 G5 600104 7301314 360 16 [(0, .ref b), (1, .ref (o 28)), (2, .int x2), (3, .int x3), (4, .ref (o 26)), (5, .ref (o 27)), (6, .long y1), (8, .int y2), (9, .int y3), (10, .int z8), (11, .int y9)] [.int p29, .int (z15 + 40), .int 0, .ref (o 28)] by
            refine q_icmp_le (pc := 336) hX 345 (by decide) dL_law_336 (fun c => ?_) (fun c => ?_)
            · rw [if_pos c] at hp29
              refine q_iload (pc := 345) hX 13 rfl dL_law_345 ?_
              refine q_bipush (pc := 347) hX (41) (by decide) dL_law_347 ?_
              refine q_iadd (pc := 349) hX dL_law_349 ?_
              refine q_iload (pc := 350) hX 12 rfl dL_law_350 ?_
              refine q_iconst (pc := 352) hX (5) rfl dL_law_352 ?_
              refine q_ishr (pc := 353) hX dL_law_353 ?_
              refine q_bipush (pc := 354) hX (90) (by decide) dL_law_354 ?_
              obtain ⟨r28, hr28, hp29⟩ := ob_bind hp29
              refine q_callS (pc := 356) (As := [.int (v12 >>> (5 &&& 31)), .int 90]) (rest := [.int (z15 + 41), .int (z15 + 40), .int 0, .ref (o 28)]) (rv := some (.int r28)) (st' := [.int r28, .int (z15 + 41), .int (z15 + 40), .int 0, .ref (o 28)]) hX (c_L_low hr28) (sl_L_58) pd_yL_low rfl ⟨by decide, by decide⟩ ⟨Nat.le_of_ble_eq_true rfl, Nat.le_of_ble_eq_true rfl⟩ rfl (Nat.le_of_ble_eq_true rfl) rfl dL_law_356 ?_
              refine q_iadd (pc := 359) hX dL_law_359 ?_
              refine q_lo [0, 1, 2, 3, 4, 5, 6, 7, 8, 9, 10] rfl ?_
              cases hp29
              exact Jp29
            · rw [if_neg c] at hp29
              refine q_sipush (pc := 339) hX (10080) (by decide) dL_law_339 ?_
              refine q_goto (pc := 342) hX 360 (by decide) dL_law_342 ?_
              refine q_lo [0, 1, 2, 3, 4, 5, 6, 7, 8, 9, 10] rfl ?_
              cases hp29
              exact Jp29
          obtain ⟨r30, hr30, hp31⟩ := ob_bind hp31
          have hkr30 : r30.1 = 0 := by
            by_cases h9 : r30.1 = 0
            · exact h9
            · rw [if_pos h9] at hp31
              cases hp31
          rw [if_neg (fun h => h hkr30)] at hp31
          refine q_callV (pc := 360) (id := 28) (As := [.int 0, .int (z15 + 40), .int p29]) (rest := []) (rv := some (.int r30.2.1)) (st' := [.int r30.2.1]) hX (c_X6_enterBreak (thr_z hr30 hkr30)) (vl_L_71) (lt46 (by decide)) rfl rfl rfl pd_yX6_enterBreak rfl ⟨by decide, by decide⟩ ⟨Nat.le_of_ble_eq_true rfl, Nat.le_of_ble_eq_true rfl⟩ rfl (Nat.le_of_ble_eq_true rfl) rfl dL_law_360 ?_
          refine q_pop (pc := 363) hX rfl dL_law_363 ?_
          cases hp31
          exact Jp31
      obtain ⟨z32, hz32⟩ : ∃ z : Int32, z = y9 + 1 := ⟨_, rfl⟩
      have hE := bnd_nm hz32 hE
      refine q_iinc (pc := 364) (lo' := [(0, .ref b), (1, .ref (o 28)), (2, .int x2), (3, .int x3), (4, .ref (o 26)), (5, .ref (o 27)), (6, .long y1), (8, .int y2), (9, .int y3), (10, .int z8), (11, .int z32)]) hX 10 z32 [1, 2, 3, 4, 5, 6, 7, 8, 9, 10, 0] rfl (by rw [hz32]; rfl) (by decide) rfl dL_law_364 ?_
      refine q_goto (pc := 367) hX 177 (by decide) dL_law_367 ?_
      exact ih _ _ p33 hE hx

set_option maxHeartbeats 4000000 in
theorem l_L_law_147 {X : Cx} (hX : CxOK X RL cL_law 16 12 454 600104 7301314 (some .boolean)) (hE0 : CxE X []) {o : Nat → Nat} {hn : Nat} {x2 : Int32} {x3 : Int32} {b : Nat} {L : Nat} {xs : Nat → Int32} (ha : o 0 = 1) (hS : ScrOK X b L xs) : ∀ (f : Nat) (y1 : Int64) (y2 : Int32) (y3 : Int32) (M4 : Mem) (G5 : Mel) (p45 : Int64 × Int32 × Int32 × Mem × Mel), L_L_law_147 hn L xs x2 x3 f y1 y2 y3 M4 G5 = some p45 → WM X o hn p45.2.2.2.1 p45.2.2.2.2 600104 7301314 462 16 [(0, .ref b), (1, .ref (o 28)), (2, .int x2), (3, .int x3), (4, .ref (o 26)), (5, .ref (o 27)), (6, .long p45.1), (8, .int p45.2.1), (9, .int p45.2.2.1)] [] → WM X o hn M4 G5 600104 7301314 147 16 [(0, .ref b), (1, .ref (o 28)), (2, .int x2), (3, .int x3), (4, .ref (o 26)), (5, .ref (o 27)), (6, .long y1), (8, .int y2), (9, .int y3)] [] := by
  intro f
  induction f with
  | zero => intro y1 y2 y3 M4 G5 p45 hE; simp [L_L_law_147] at hE
  | succ f ih =>
    intro y1 y2 y3 M4 G5 p45 hE hx
    rw [L_L_law_147] at hE
    refine q_iload (pc := 147) hX 8 rfl dL_law_147 ?_
    refine q_iconst (pc := 149) hX (4) rfl dL_law_149 ?_
    refine q_icmp_ge (pc := 150) hX 462 (by decide) dL_law_150 (fun c => ?_) (fun c => ?_)
    · rw [if_pos c] at hE
      cases hE
      exact hx
    · rw [if_neg c] at hE
      refine q_iconst (pc := 153) hX (1) rfl dL_law_153 ?_
      refine q_aload_n (pc := 154) hX 0 rfl rfl dL_law_154 ?_
      refine q_bipush (pc := 155) hX (6) (by decide) dL_law_155 ?_
      refine q_bipush (pc := 157) hX (20) (by decide) dL_law_157 ?_
      refine q_iload (pc := 159) hX 8 rfl dL_law_159 ?_
      refine q_imul (pc := 161) hX dL_law_161 ?_
      refine q_iadd (pc := 162) hX dL_law_162 ?_
      obtain ⟨v6, hv6, hE⟩ := ob_bind hE
      refine q_cell (pc := 163) hX hS hv6 (Nat.le_of_ble_eq_true rfl) (Nat.le_of_ble_eq_true rfl) (Nat.le_of_ble_eq_true rfl) (Nat.le_of_ble_eq_true rfl) (Nat.le_of_ble_eq_true rfl) dL_law_163 ?_
      refine q_bipush (pc := 166) hX (9) (by decide) dL_law_166 ?_
      obtain ⟨r7, hr7, hE⟩ := ob_bind hE
      refine q_callS (pc := 168) (As := [.int v6, .int 9]) (rest := [.int 1]) (rv := some (.int r7)) (st' := [.int r7, .int 1]) hX (c_L_low hr7) (sl_L_58) pd_yL_low rfl ⟨by decide, by decide⟩ ⟨Nat.le_of_ble_eq_true rfl, Nat.le_of_ble_eq_true rfl⟩ rfl (Nat.le_of_ble_eq_true rfl) rfl dL_law_168 ?_
      refine q_iadd (pc := 171) hX dL_law_171 ?_
      refine q_nm (fun z8 hz8 => ?_)
      have hE := bnd_nm hz8 hE
      refine q_istore (pc := 172) (lo' := [(0, .ref b), (1, .ref (o 28)), (2, .int x2), (3, .int x3), (4, .ref (o 26)), (5, .ref (o 27)), (6, .long y1), (8, .int y2), (9, .int y3), (10, .int z8)]) hX [1, 2, 3, 4, 5, 6, 7, 8, 9, 0] (by decide) rfl dL_law_172 ?_
      refine q_iconst (pc := 174) hX (0) rfl dL_law_174 ?_
      refine q_istore (pc := 175) (lo' := [(0, .ref b), (1, .ref (o 28)), (2, .int x2), (3, .int x3), (4, .ref (o 26)), (5, .ref (o 27)), (6, .long y1), (8, .int y2), (9, .int y3), (10, .int z8), (11, .int 0)]) hX [1, 2, 3, 4, 5, 6, 7, 8, 9, 10, 0] (by decide) rfl dL_law_175 ?_
      obtain ⟨p33, hp33, hE⟩ := ob_bind hE
      refine l_L_law_177 hX hE0 ha hS FU _ _ p33 hp33 ?_
      refine q_aload_n (pc := 370) hX 1 rfl rfl dL_law_370 ?_
      refine q_aload (pc := 371) hX 4 rfl dL_law_371 ?_
      refine q_aload (pc := 373) hX 5 rfl dL_law_373 ?_
      refine q_iload_n (pc := 375) hX 2 rfl rfl dL_law_375 ?_
      refine q_iload_n (pc := 376) hX 3 rfl rfl dL_law_376 ?_
      obtain ⟨p35, hp35, hE⟩ := bnd_ob hE
      suffices Jp35 : WM X o hn p33.2 G5 600104 7301314 385 16 [(0, .ref b), (1, .ref (o 28)), (2, .int x2), (3, .int x3), (4, .ref (o 26)), (5, .ref (o 27)), (6, .long y1), (8, .int y2), (9, .int y3)] [.int p35, .int x2, .ref (o 27), .ref (o 26), .ref (o 28)] by
        refine q_if_le (pc := 377) hX 384 (by decide) dL_law_377 (fun c => ?_) (fun c => ?_)
        · rw [if_pos c] at hp35
          refine q_iconst (pc := 384) hX (0) rfl dL_law_384 ?_
          refine q_lo [0, 1, 2, 3, 4, 5, 6, 7, 8] rfl ?_
          cases hp35
          exact Jp35
        · rw [if_neg c] at hp35
          refine q_iconst (pc := 380) hX (1) rfl dL_law_380 ?_
          refine q_goto (pc := 381) hX 385 (by decide) dL_law_381 ?_
          refine q_lo [0, 1, 2, 3, 4, 5, 6, 7, 8] rfl ?_
          cases hp35
          exact Jp35
      obtain ⟨r36, hr36, hE⟩ := ob_bind hE
      refine q_callS (pc := 385) (As := [.ref (o 28), .ref (o 26), .ref (o 27), .int x2, .int p35]) (rest := []) (rv := some (.int r36.1)) (st' := [.int r36.1]) hX (c_L_isPaid ha hr36) (sl_L_74) pd_yL_isPaid rfl ⟨by decide, by decide⟩ ⟨Nat.le_of_ble_eq_true rfl, Nat.le_of_ble_eq_true rfl⟩ rfl (Nat.le_of_ble_eq_true rfl) rfl dL_law_385 ?_
      refine q_if_ne (pc := 388) hX 393 (by decide) dL_law_388 (fun c => ?_) (fun c => ?_)
      · rw [if_neg c] at hE
        refine q_aload_n (pc := 393) hX 1 rfl rfl dL_law_393 ?_
        refine q_iconst (pc := 394) hX (0) rfl dL_law_394 ?_
        obtain ⟨r37, hr37, hE⟩ := ob_bind hE
        have hkr37 : r37.1 = 0 := by
          by_cases h9 : r37.1 = 0
          · exact h9
          · rw [if_pos h9] at hE
            cases hE
        rw [if_neg (fun h => h hkr37)] at hE
        refine q_callV (pc := 395) (id := 28) (As := [.int 0]) (rest := []) (rv := some (.int r37.2.1)) (st' := [.int r37.2.1]) hX (c_X6_pay (thr_z hr37 hkr37)) (vl_L_31) (lt46 (by decide)) rfl rfl rfl pd_yX6_pay rfl ⟨by decide, by decide⟩ ⟨Nat.le_of_ble_eq_true rfl, Nat.le_of_ble_eq_true rfl⟩ rfl (Nat.le_of_ble_eq_true rfl) rfl dL_law_395 ?_
        refine q_istore (pc := 398) (lo' := [(0, .ref b), (1, .ref (o 28)), (2, .int x2), (3, .int x3), (4, .ref (o 26)), (5, .ref (o 27)), (6, .long y1), (8, .int y2), (9, .int y3), (11, .int r37.2.1)]) hX [1, 2, 3, 4, 5, 6, 7, 8, 9, 0] (by decide) rfl dL_law_398 ?_
        refine q_aload_n (pc := 400) hX 1 rfl rfl dL_law_400 ?_
        refine q_iconst (pc := 401) hX (0) rfl dL_law_401 ?_
        obtain ⟨r38, hr38, hE⟩ := ob_bind hE
        have hkr38 : r38.1 = 0 := by
          by_cases h9 : r38.1 = 0
          · exact h9
          · rw [if_pos h9] at hE
            cases hE
        rw [if_neg (fun h => h hkr38)] at hE
        refine q_callV (pc := 402) (id := 28) (As := [.int 0]) (rest := []) (rv := some (.int r38.2.1)) (st' := [.int r38.2.1]) hX (c_X6_closeWeek (thr_z hr38 hkr38)) (vl_L_78) (lt46 (by decide)) rfl rfl rfl pd_yX6_closeWeek rfl ⟨by decide, by decide⟩ ⟨Nat.le_of_ble_eq_true rfl, Nat.le_of_ble_eq_true rfl⟩ rfl (Nat.le_of_ble_eq_true rfl) rfl dL_law_402 ?_
        refine q_istore (pc := 405) (lo' := [(0, .ref b), (1, .ref (o 28)), (2, .int x2), (3, .int x3), (4, .ref (o 26)), (5, .ref (o 27)), (6, .long y1), (8, .int y2), (9, .int y3), (11, .int r37.2.1), (12, .int r38.2.1)]) hX [1, 2, 3, 4, 5, 6, 7, 8, 9, 10, 0] (by decide) rfl dL_law_405 ?_
        refine q_lload (pc := 407) hX 6 rfl dL_law_407 ?_
        refine q_iload (pc := 409) hX 10 rfl dL_law_409 ?_
        refine q_i2l (pc := 411) hX dL_law_411 ?_
        refine q_ladd (pc := 412) hX dL_law_412 ?_
        refine q_nmL (fun z39 hz39 => ?_)
        have hE := bnd_nm hz39 hE
        refine q_lstore (pc := 413) (lo' := [(0, .ref b), (1, .ref (o 28)), (2, .int x2), (3, .int x3), (4, .ref (o 26)), (5, .ref (o 27)), (6, .long z39), (8, .int y2), (9, .int y3), (11, .int r37.2.1), (12, .int r38.2.1)]) hX [1, 2, 3, 4, 5, 6, 0, 7, 8, 9, 10] (by decide) rfl dL_law_413 ?_
        obtain ⟨z40, hz40⟩ : ∃ z : Int32, z = y2 + 1 := ⟨_, rfl⟩
        have hE := bnd_nm hz40 hE
        refine q_iinc (pc := 415) (lo' := [(0, .ref b), (1, .ref (o 28)), (2, .int x2), (3, .int x3), (4, .ref (o 26)), (5, .ref (o 27)), (6, .long z39), (8, .int z40), (9, .int y3), (11, .int r37.2.1), (12, .int r38.2.1)]) hX 7 z40 [1, 2, 3, 4, 5, 6, 7, 0, 8, 9, 10] rfl (by rw [hz40]; rfl) (by decide) rfl dL_law_415 ?_
        refine q_iload (pc := 418) hX 10 rfl dL_law_418 ?_
        refine q_iload (pc := 420) hX 9 rfl dL_law_420 ?_
        refine q_icmp_ne (pc := 422) hX 454 (by decide) dL_law_422 (fun c => ?_) (fun c => ?_)
        · rw [if_neg c] at hE
          refine q_iconst (pc := 454) hX (0) rfl dL_law_454 ?_
          cases hE
        · rw [if_pos c] at hE
          refine q_aload_n (pc := 425) hX 1 rfl rfl dL_law_425 ?_
          refine q_iconst (pc := 426) hX (0) rfl dL_law_426 ?_
          obtain ⟨r41, hr41, hE⟩ := ob_bind hE
          have hkr41 : r41.1 = 0 := by
            by_cases h9 : r41.1 = 0
            · exact h9
            · rw [if_pos h9] at hE
              cases hE
          rw [if_neg (fun h => h hkr41)] at hE
          refine q_callV (pc := 427) (id := 28) (As := [.int 0]) (rest := []) (rv := some (.long r41.2)) (st' := [.long r41.2]) hX (c_X6_earned (thr_z hr41 hkr41)) (vl_L_81) (lt46 (by decide)) rfl rfl rfl pd_yX6_earned rfl ⟨by decide, by decide⟩ ⟨Nat.le_of_ble_eq_true rfl, Nat.le_of_ble_eq_true rfl⟩ rfl (Nat.le_of_ble_eq_true rfl) rfl dL_law_427 ?_
          refine q_lload (pc := 430) hX 6 rfl dL_law_430 ?_
          refine q_lcmp_ne (pc := 432) hX 454 (by decide) dL_law_432 dL_law_433 (fun c => ?_) (fun c => ?_)
          · rw [if_neg c] at hE
            refine q_iconst (pc := 454) hX (0) rfl dL_law_454 ?_
            cases hE
          · rw [if_pos c] at hE
            refine q_aload_n (pc := 436) hX 1 rfl rfl dL_law_436 ?_
            refine q_iconst (pc := 437) hX (0) rfl dL_law_437 ?_
            obtain ⟨r42, hr42, hE⟩ := ob_bind hE
            have hkr42 : r42.1 = 0 := by
              by_cases h9 : r42.1 = 0
              · exact h9
              · rw [if_pos h9] at hE
                cases hE
            rw [if_neg (fun h => h hkr42)] at hE
            refine q_callV (pc := 438) (id := 28) (As := [.int 0]) (rest := []) (rv := some (.int r42.2)) (st' := [.int r42.2]) hX (c_X6_closedWeeks (thr_z hr42 hkr42)) (vl_L_85) (lt46 (by decide)) rfl rfl rfl pd_yX6_closedWeeks rfl ⟨by decide, by decide⟩ ⟨Nat.le_of_ble_eq_true rfl, Nat.le_of_ble_eq_true rfl⟩ rfl (Nat.le_of_ble_eq_true rfl) rfl dL_law_438 ?_
            refine q_iload (pc := 441) hX 7 rfl dL_law_441 ?_
            refine q_icmp_ne (pc := 443) hX 454 (by decide) dL_law_443 (fun c => ?_) (fun c => ?_)
            · rw [if_neg c] at hE
              refine q_iconst (pc := 454) hX (0) rfl dL_law_454 ?_
              cases hE
            · rw [if_pos c] at hE
              refine q_aload_n (pc := 446) hX 1 rfl rfl dL_law_446 ?_
              refine q_iconst (pc := 447) hX (0) rfl dL_law_447 ?_
              obtain ⟨r43, hr43, hE⟩ := ob_bind hE
              refine q_callS (pc := 448) (As := [.ref (o 28), .int 0]) (rest := []) (rv := some (.int r43.1)) (st' := [.int r43.1]) hX (c_L_isEmpty hr43) (sl_L_88) pd_yL_isEmpty rfl ⟨by decide, by decide⟩ ⟨Nat.le_of_ble_eq_true rfl, Nat.le_of_ble_eq_true rfl⟩ rfl (Nat.le_of_ble_eq_true rfl) rfl dL_law_448 ?_
              refine q_if_ne (pc := 451) hX 456 (by decide) dL_law_451 (fun c => ?_) (fun c => ?_)
              · rw [if_neg c] at hE
                obtain ⟨z44, hz44⟩ : ∃ z : Int32, z = y3 + 1 := ⟨_, rfl⟩
                have hE := bnd_nm hz44 hE
                refine q_iinc (pc := 456) (lo' := [(0, .ref b), (1, .ref (o 28)), (2, .int x2), (3, .int x3), (4, .ref (o 26)), (5, .ref (o 27)), (6, .long z39), (8, .int z40), (9, .int z44), (11, .int r37.2.1), (12, .int r38.2.1)]) hX 8 z44 [1, 2, 3, 4, 5, 6, 7, 8, 0, 9, 10] rfl (by rw [hz44]; rfl) (by decide) rfl dL_law_456 ?_
                refine q_goto (pc := 459) hX 147 (by decide) dL_law_459 ?_
                refine q_lo [0, 1, 2, 3, 4, 5, 6, 7, 8] rfl ?_
                exact ih _ _ _ _ _ p45 hE hx
              · rw [if_pos c] at hE
                refine q_iconst (pc := 454) hX (0) rfl dL_law_454 ?_
                cases hE
      · rw [if_pos c] at hE
        refine q_iconst (pc := 391) hX (0) rfl dL_law_391 ?_
        cases hE

set_option maxHeartbeats 4000000 in
theorem g_s_L_law2 {X : Cx} (hX : CxOK X RL cL_law 16 12 454 600104 7301314 (some .boolean)) (hE0 : CxE X []) {b L : Nat} {xs : Nat → Int32} (hS : ScrOK X b L xs) {o : Nat → Nat} {hn : Nat} {M : Mem} {G : Mel} {x2 : Int32} {x3 : Int32} (ha : o 0 = 1) {p : Unit} (hE : s_L_law2 L xs M G hn x2 x3 = some p) (hx : ∀ (M' : Mem) (G' : Mel) (lo : List (Nat × Value)), WM X o hn M' G' 600104 7301314 463 16 lo [.int 1]) : WM X o hn M G 600104 7301314 138 16 [(0, .ref b), (1, .ref (o 28)), (2, .int x2), (3, .int x3), (4, .ref (o 26)), (5, .ref (o 27))] [] := by
  unfold s_L_law2 at hE
  refine q_lconst (pc := 138) hX 0 rfl dL_law_138 ?_
  refine q_lstore (pc := 139) (lo' := [(0, .ref b), (1, .ref (o 28)), (2, .int x2), (3, .int x3), (4, .ref (o 26)), (5, .ref (o 27)), (6, .long 0)]) hX [1, 2, 3, 4, 5, 6, 0] (by decide) rfl dL_law_139 ?_
  refine q_iconst (pc := 141) hX (0) rfl dL_law_141 ?_
  refine q_istore (pc := 142) (lo' := [(0, .ref b), (1, .ref (o 28)), (2, .int x2), (3, .int x3), (4, .ref (o 26)), (5, .ref (o 27)), (6, .long 0), (8, .int 0)]) hX [1, 2, 3, 4, 5, 6, 7, 0] (by decide) rfl dL_law_142 ?_
  refine q_iconst (pc := 144) hX (0) rfl dL_law_144 ?_
  refine q_istore (pc := 145) (lo' := [(0, .ref b), (1, .ref (o 28)), (2, .int x2), (3, .int x3), (4, .ref (o 26)), (5, .ref (o 27)), (6, .long 0), (8, .int 0), (9, .int 0)]) hX [1, 2, 3, 4, 5, 6, 7, 8, 0] (by decide) rfl dL_law_145 ?_
  obtain ⟨p45, hp45, hE⟩ := ob_bind hE
  refine l_L_law_147 hX hE0 ha hS FU _ _ _ _ _ p45 hp45 ?_
  refine q_iconst (pc := 462) hX (1) rfl dL_law_462 ?_
  cases hE
  exact hx _ _ _
end

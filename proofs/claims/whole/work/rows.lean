section
-- ===== PART A: goes FIRST, ahead of the names: the tables' words, and 'selects' of the private methods out of them =====
/-- a private method of a class that the tables say can be made, by its rows of tables_1 -/
def lw_okq (q : MethodName × Nat) : Prop := (q.1.cls ≠ "java/lang/invoke/MethodHandle" ∧ q.1.cls ≠ "java/lang/invoke/VarHandle") ∧ Cond.instantiable q.1.cls q.2 ∈ tables_1 ∧ Cond.privateMethod q.1 ∈ tables_1 ∧ Cond.instanceMethod q.1 ∈ tables_1
theorem lw_p0 : lw_okq (⟨"java/lang/Throwable", "fillInStackTrace", "(I)Ljava/lang/Throwable;"⟩, 6) := ⟨⟨by decide +kernel, by decide +kernel⟩, List.mem_of_getElem? (i := 194) (by decide +kernel), List.mem_of_getElem? (i := 192) (by decide +kernel), List.mem_of_getElem? (i := 193) (by decide +kernel)⟩
theorem lw_p1 : lw_okq (⟨"Timesheets", "find", "(I)LTimesheets$Employee;"⟩, 6) := ⟨⟨by decide +kernel, by decide +kernel⟩, List.mem_of_getElem? (i := 18) (by decide +kernel), List.mem_of_getElem? (i := 283) (by decide +kernel), List.mem_of_getElem? (i := 284) (by decide +kernel)⟩
theorem lw_p2 : lw_okq (⟨"Timesheets$Shifts", "addFromIn", "(LTimesheets$Table;I)V"⟩, 2) := ⟨⟨by decide +kernel, by decide +kernel⟩, List.mem_of_getElem? (i := 68) (by decide +kernel), List.mem_of_getElem? (i := 459) (by decide +kernel), List.mem_of_getElem? (i := 460) (by decide +kernel)⟩
theorem lw_p3 : lw_okq (⟨"Timesheets$Shifts", "addFromLoneOut", "(LTimesheets$Table;I)V"⟩, 2) := ⟨⟨by decide +kernel, by decide +kernel⟩, List.mem_of_getElem? (i := 68) (by decide +kernel), List.mem_of_getElem? (i := 467) (by decide +kernel), List.mem_of_getElem? (i := 468) (by decide +kernel)⟩
theorem lw_p4 : lw_okq (⟨"Timesheets$Timeline", "addEvents", "(LTimesheets$Table;II)V"⟩, 4) := ⟨⟨by decide +kernel, by decide +kernel⟩, List.mem_of_getElem? (i := 62) (by decide +kernel), List.mem_of_getElem? (i := 475) (by decide +kernel), List.mem_of_getElem? (i := 476) (by decide +kernel)⟩
theorem lw_p5 : lw_okq (⟨"Timesheets$Timeline", "addEvent", "(III)V"⟩, 4) := ⟨⟨by decide +kernel, by decide +kernel⟩, List.mem_of_getElem? (i := 62) (by decide +kernel), List.mem_of_getElem? (i := 481) (by decide +kernel), List.mem_of_getElem? (i := 482) (by decide +kernel)⟩
theorem lw_p6 : lw_okq (⟨"Timesheets$Timeline", "goThroughEvents", "()V"⟩, 4) := ⟨⟨by decide +kernel, by decide +kernel⟩, List.mem_of_getElem? (i := 62) (by decide +kernel), List.mem_of_getElem? (i := 487) (by decide +kernel), List.mem_of_getElem? (i := 488) (by decide +kernel)⟩
theorem lw_p7 : lw_okq (⟨"Timesheets$Timeline", "addWorked", "(II)V"⟩, 4) := ⟨⟨by decide +kernel, by decide +kernel⟩, List.mem_of_getElem? (i := 62) (by decide +kernel), List.mem_of_getElem? (i := 491) (by decide +kernel), List.mem_of_getElem? (i := 492) (by decide +kernel)⟩
theorem lw_p8 : lw_okq (⟨"Timesheets$Payroll", "takeOffAutomaticBreaks", "(LTimesheets$Table;)V"⟩, 3) := ⟨⟨by decide +kernel, by decide +kernel⟩, List.mem_of_getElem? (i := 56) (by decide +kernel), List.mem_of_getElem? (i := 496) (by decide +kernel), List.mem_of_getElem? (i := 497) (by decide +kernel)⟩
theorem lw_p9 : lw_okq (⟨"Timesheets$Payroll", "isFull", "()Z"⟩, 3) := ⟨⟨by decide +kernel, by decide +kernel⟩, List.mem_of_getElem? (i := 56) (by decide +kernel), List.mem_of_getElem? (i := 505) (by decide +kernel), List.mem_of_getElem? (i := 506) (by decide +kernel)⟩
theorem lw_p10 : lw_okq (⟨"Timesheets$Payroll", "addPartsOfDay", "(IIZ)V"⟩, 3) := ⟨⟨by decide +kernel, by decide +kernel⟩, List.mem_of_getElem? (i := 56) (by decide +kernel), List.mem_of_getElem? (i := 514) (by decide +kernel), List.mem_of_getElem? (i := 515) (by decide +kernel)⟩
theorem lw_p11 : lw_okq (⟨"Timesheets$Payroll", "addParts", "(IIIIZ)V"⟩, 3) := ⟨⟨by decide +kernel, by decide +kernel⟩, List.mem_of_getElem? (i := 56) (by decide +kernel), List.mem_of_getElem? (i := 519) (by decide +kernel), List.mem_of_getElem? (i := 520) (by decide +kernel)⟩
theorem lw_p12 : lw_okq (⟨"Timesheets$Payroll", "quartersOfWeek", "(I)I"⟩, 3) := ⟨⟨by decide +kernel, by decide +kernel⟩, List.mem_of_getElem? (i := 56) (by decide +kernel), List.mem_of_getElem? (i := 534) (by decide +kernel), List.mem_of_getElem? (i := 535) (by decide +kernel)⟩
theorem lw_p13 : lw_okq (⟨"Timesheets$Premiums", "sumOver", "(II)I"⟩, 1) := ⟨⟨by decide +kernel, by decide +kernel⟩, List.mem_of_getElem? (i := 28) (by decide +kernel), List.mem_of_getElem? (i := 547) (by decide +kernel), List.mem_of_getElem? (i := 548) (by decide +kernel)⟩
theorem lw_p14 : lw_okq (⟨"Timesheets$Premiums", "nextChange", "(I)I"⟩, 1) := ⟨⟨by decide +kernel, by decide +kernel⟩, List.mem_of_getElem? (i := 28) (by decide +kernel), List.mem_of_getElem? (i := 551) (by decide +kernel), List.mem_of_getElem? (i := 552) (by decide +kernel)⟩
theorem lw_p15 : lw_okq (⟨"Timesheets$Premiums", "greatestRate", "(II)I"⟩, 1) := ⟨⟨by decide +kernel, by decide +kernel⟩, List.mem_of_getElem? (i := 28) (by decide +kernel), List.mem_of_getElem? (i := 556) (by decide +kernel), List.mem_of_getElem? (i := 557) (by decide +kernel)⟩
def lw_privs_1 : List (MethodName × Nat) := [(⟨"java/lang/Throwable", "fillInStackTrace", "(I)Ljava/lang/Throwable;"⟩, 6), (⟨"Timesheets", "find", "(I)LTimesheets$Employee;"⟩, 6), (⟨"Timesheets$Shifts", "addFromIn", "(LTimesheets$Table;I)V"⟩, 2), (⟨"Timesheets$Shifts", "addFromLoneOut", "(LTimesheets$Table;I)V"⟩, 2), (⟨"Timesheets$Timeline", "addEvents", "(LTimesheets$Table;II)V"⟩, 4), (⟨"Timesheets$Timeline", "addEvent", "(III)V"⟩, 4), (⟨"Timesheets$Timeline", "goThroughEvents", "()V"⟩, 4), (⟨"Timesheets$Timeline", "addWorked", "(II)V"⟩, 4), (⟨"Timesheets$Payroll", "takeOffAutomaticBreaks", "(LTimesheets$Table;)V"⟩, 3), (⟨"Timesheets$Payroll", "isFull", "()Z"⟩, 3), (⟨"Timesheets$Payroll", "addPartsOfDay", "(IIZ)V"⟩, 3), (⟨"Timesheets$Payroll", "addParts", "(IIIIZ)V"⟩, 3), (⟨"Timesheets$Payroll", "quartersOfWeek", "(I)I"⟩, 3), (⟨"Timesheets$Premiums", "sumOver", "(II)I"⟩, 1), (⟨"Timesheets$Premiums", "nextChange", "(I)I"⟩, 1), (⟨"Timesheets$Premiums", "greatestRate", "(II)I"⟩, 1)]
theorem lw_r1 : ∀ q ∈ lw_privs_1, lw_okq q := List.forall_mem_cons.mpr ⟨lw_p0, List.forall_mem_cons.mpr ⟨lw_p1, List.forall_mem_cons.mpr ⟨lw_p2, List.forall_mem_cons.mpr ⟨lw_p3, List.forall_mem_cons.mpr ⟨lw_p4, List.forall_mem_cons.mpr ⟨lw_p5, List.forall_mem_cons.mpr ⟨lw_p6, List.forall_mem_cons.mpr ⟨lw_p7, List.forall_mem_cons.mpr ⟨lw_p8, List.forall_mem_cons.mpr ⟨lw_p9, List.forall_mem_cons.mpr ⟨lw_p10, List.forall_mem_cons.mpr ⟨lw_p11, List.forall_mem_cons.mpr ⟨lw_p12, List.forall_mem_cons.mpr ⟨lw_p13, List.forall_mem_cons.mpr ⟨lw_p14, List.forall_mem_cons.mpr ⟨lw_p15, fun _ h => absurd h List.not_mem_nil⟩⟩⟩⟩⟩⟩⟩⟩⟩⟩⟩⟩⟩⟩⟩⟩
theorem lw_p16 : lw_okq (⟨"TimesheetsModel", "isOne", "(I)Z"⟩, 34) := ⟨⟨by decide +kernel, by decide +kernel⟩, List.mem_of_getElem? (i := 699) (by decide +kernel), List.mem_of_getElem? (i := 826) (by decide +kernel), List.mem_of_getElem? (i := 827) (by decide +kernel)⟩
theorem lw_p17 : lw_okq (⟨"TimesheetsModel", "hasPunch", "(II)Z"⟩, 34) := ⟨⟨by decide +kernel, by decide +kernel⟩, List.mem_of_getElem? (i := 699) (by decide +kernel), List.mem_of_getElem? (i := 834) (by decide +kernel), List.mem_of_getElem? (i := 835) (by decide +kernel)⟩
theorem lw_p18 : lw_okq (⟨"TimesheetsModel", "placeOf", "(II)I"⟩, 34) := ⟨⟨by decide +kernel, by decide +kernel⟩, List.mem_of_getElem? (i := 699) (by decide +kernel), List.mem_of_getElem? (i := 838) (by decide +kernel), List.mem_of_getElem? (i := 839) (by decide +kernel)⟩
theorem lw_p19 : lw_okq (⟨"TimesheetsModel", "puts", "(III[I[I[I)I"⟩, 34) := ⟨⟨by decide +kernel, by decide +kernel⟩, List.mem_of_getElem? (i := 699) (by decide +kernel), List.mem_of_getElem? (i := 850) (by decide +kernel), List.mem_of_getElem? (i := 851) (by decide +kernel)⟩
theorem lw_p20 : lw_okq (⟨"TimesheetsModel", "takes", "(II[I[I[I)I"⟩, 34) := ⟨⟨by decide +kernel, by decide +kernel⟩, List.mem_of_getElem? (i := 699) (by decide +kernel), List.mem_of_getElem? (i := 858) (by decide +kernel), List.mem_of_getElem? (i := 859) (by decide +kernel)⟩
theorem lw_p21 : lw_okq (⟨"TimesheetsModel", "payOf", "(I)I"⟩, 34) := ⟨⟨by decide +kernel, by decide +kernel⟩, List.mem_of_getElem? (i := 699) (by decide +kernel), List.mem_of_getElem? (i := 882) (by decide +kernel), List.mem_of_getElem? (i := 883) (by decide +kernel)⟩
theorem lw_p22 : lw_okq (⟨"TimesheetsModel", "lays", "(I)V"⟩, 34) := ⟨⟨by decide +kernel, by decide +kernel⟩, List.mem_of_getElem? (i := 699) (by decide +kernel), List.mem_of_getElem? (i := 886) (by decide +kernel), List.mem_of_getElem? (i := 887) (by decide +kernel)⟩
theorem lw_p23 : lw_okq (⟨"TimesheetsModel", "findsShifts", "(I)V"⟩, 34) := ⟨⟨by decide +kernel, by decide +kernel⟩, List.mem_of_getElem? (i := 699) (by decide +kernel), List.mem_of_getElem? (i := 890) (by decide +kernel), List.mem_of_getElem? (i := 891) (by decide +kernel)⟩
theorem lw_p24 : lw_okq (⟨"TimesheetsModel", "makes", "(IIZ)V"⟩, 34) := ⟨⟨by decide +kernel, by decide +kernel⟩, List.mem_of_getElem? (i := 699) (by decide +kernel), List.mem_of_getElem? (i := 894) (by decide +kernel), List.mem_of_getElem? (i := 895) (by decide +kernel)⟩
theorem lw_p25 : lw_okq (⟨"TimesheetsModel", "marks", "([III)V"⟩, 34) := ⟨⟨by decide +kernel, by decide +kernel⟩, List.mem_of_getElem? (i := 699) (by decide +kernel), List.mem_of_getElem? (i := 898) (by decide +kernel), List.mem_of_getElem? (i := 899) (by decide +kernel)⟩
theorem lw_p26 : lw_okq (⟨"TimesheetsModel", "findsPaid", "()V"⟩, 34) := ⟨⟨by decide +kernel, by decide +kernel⟩, List.mem_of_getElem? (i := 699) (by decide +kernel), List.mem_of_getElem? (i := 902) (by decide +kernel), List.mem_of_getElem? (i := 903) (by decide +kernel)⟩
theorem lw_p27 : lw_okq (⟨"TimesheetsModel", "findsKinds", "()V"⟩, 34) := ⟨⟨by decide +kernel, by decide +kernel⟩, List.mem_of_getElem? (i := 699) (by decide +kernel), List.mem_of_getElem? (i := 906) (by decide +kernel), List.mem_of_getElem? (i := 907) (by decide +kernel)⟩
theorem lw_p28 : lw_okq (⟨"TimesheetsModel", "findsShares", "()V"⟩, 34) := ⟨⟨by decide +kernel, by decide +kernel⟩, List.mem_of_getElem? (i := 699) (by decide +kernel), List.mem_of_getElem? (i := 910) (by decide +kernel), List.mem_of_getElem? (i := 911) (by decide +kernel)⟩
theorem lw_p29 : lw_okq (⟨"TimesheetsModel", "ahead", "(II)I"⟩, 34) := ⟨⟨by decide +kernel, by decide +kernel⟩, List.mem_of_getElem? (i := 699) (by decide +kernel), List.mem_of_getElem? (i := 914) (by decide +kernel), List.mem_of_getElem? (i := 915) (by decide +kernel)⟩
theorem lw_p30 : lw_okq (⟨"TimesheetsModel", "extra", "()I"⟩, 34) := ⟨⟨by decide +kernel, by decide +kernel⟩, List.mem_of_getElem? (i := 699) (by decide +kernel), List.mem_of_getElem? (i := 918) (by decide +kernel), List.mem_of_getElem? (i := 919) (by decide +kernel)⟩
theorem lw_p31 : lw_okq (⟨"TimesheetsModel", "applies", "(II)Z"⟩, 34) := ⟨⟨by decide +kernel, by decide +kernel⟩, List.mem_of_getElem? (i := 699) (by decide +kernel), List.mem_of_getElem? (i := 922) (by decide +kernel), List.mem_of_getElem? (i := 923) (by decide +kernel)⟩
def lw_privs_2 : List (MethodName × Nat) := [(⟨"TimesheetsModel", "isOne", "(I)Z"⟩, 34), (⟨"TimesheetsModel", "hasPunch", "(II)Z"⟩, 34), (⟨"TimesheetsModel", "placeOf", "(II)I"⟩, 34), (⟨"TimesheetsModel", "puts", "(III[I[I[I)I"⟩, 34), (⟨"TimesheetsModel", "takes", "(II[I[I[I)I"⟩, 34), (⟨"TimesheetsModel", "payOf", "(I)I"⟩, 34), (⟨"TimesheetsModel", "lays", "(I)V"⟩, 34), (⟨"TimesheetsModel", "findsShifts", "(I)V"⟩, 34), (⟨"TimesheetsModel", "makes", "(IIZ)V"⟩, 34), (⟨"TimesheetsModel", "marks", "([III)V"⟩, 34), (⟨"TimesheetsModel", "findsPaid", "()V"⟩, 34), (⟨"TimesheetsModel", "findsKinds", "()V"⟩, 34), (⟨"TimesheetsModel", "findsShares", "()V"⟩, 34), (⟨"TimesheetsModel", "ahead", "(II)I"⟩, 34), (⟨"TimesheetsModel", "extra", "()I"⟩, 34), (⟨"TimesheetsModel", "applies", "(II)Z"⟩, 34)]
theorem lw_r2 : ∀ q ∈ lw_privs_2, lw_okq q := List.forall_mem_cons.mpr ⟨lw_p16, List.forall_mem_cons.mpr ⟨lw_p17, List.forall_mem_cons.mpr ⟨lw_p18, List.forall_mem_cons.mpr ⟨lw_p19, List.forall_mem_cons.mpr ⟨lw_p20, List.forall_mem_cons.mpr ⟨lw_p21, List.forall_mem_cons.mpr ⟨lw_p22, List.forall_mem_cons.mpr ⟨lw_p23, List.forall_mem_cons.mpr ⟨lw_p24, List.forall_mem_cons.mpr ⟨lw_p25, List.forall_mem_cons.mpr ⟨lw_p26, List.forall_mem_cons.mpr ⟨lw_p27, List.forall_mem_cons.mpr ⟨lw_p28, List.forall_mem_cons.mpr ⟨lw_p29, List.forall_mem_cons.mpr ⟨lw_p30, List.forall_mem_cons.mpr ⟨lw_p31, fun _ h => absurd h List.not_mem_nil⟩⟩⟩⟩⟩⟩⟩⟩⟩⟩⟩⟩⟩⟩⟩⟩
theorem lw_p32 : lw_okq (⟨"TimesheetsModel", "fails", "(I)I"⟩, 34) := ⟨⟨by decide +kernel, by decide +kernel⟩, List.mem_of_getElem? (i := 699) (by decide +kernel), List.mem_of_getElem? (i := 934) (by decide +kernel), List.mem_of_getElem? (i := 935) (by decide +kernel)⟩
theorem lw_p33 : lw_okq (⟨"TimesheetsModel", "looks", "(I)Z"⟩, 34) := ⟨⟨by decide +kernel, by decide +kernel⟩, List.mem_of_getElem? (i := 699) (by decide +kernel), List.mem_of_getElem? (i := 946) (by decide +kernel), List.mem_of_getElem? (i := 947) (by decide +kernel)⟩
theorem lw_p34 : lw_okq (⟨"TimesheetsModel", "told", "(III[I)I"⟩, 34) := ⟨⟨by decide +kernel, by decide +kernel⟩, List.mem_of_getElem? (i := 699) (by decide +kernel), List.mem_of_getElem? (i := 990) (by decide +kernel), List.mem_of_getElem? (i := 991) (by decide +kernel)⟩
def lw_privs_3 : List (MethodName × Nat) := [(⟨"TimesheetsModel", "fails", "(I)I"⟩, 34), (⟨"TimesheetsModel", "looks", "(I)Z"⟩, 34), (⟨"TimesheetsModel", "told", "(III[I)I"⟩, 34)]
theorem lw_r3 : ∀ q ∈ lw_privs_3, lw_okq q := List.forall_mem_cons.mpr ⟨lw_p32, List.forall_mem_cons.mpr ⟨lw_p33, List.forall_mem_cons.mpr ⟨lw_p34, fun _ h => absurd h List.not_mem_nil⟩⟩⟩
def lw_privs : List (MethodName × Nat) := lw_privs_1 ++ (lw_privs_2 ++ (lw_privs_3))
def lw_tbl : List Cond := k2_sels lw_privs ++ tables_1
theorem lw_privs_ok : ∀ q ∈ lw_privs, lw_okq q := by
  show ∀ q ∈ lw_privs_1 ++ (lw_privs_2 ++ (lw_privs_3)), lw_okq q
  exact List.forall_mem_append.mpr ⟨lw_r1, List.forall_mem_append.mpr ⟨lw_r2, lw_r3⟩⟩
end
section
/-! ===== BEGIN words of one list among another's, by their places ===== -/
theorem goodIn_r {big : List Cond} (ws : List Cond) (ps : List Nat) (hp : ws = ps.filterMap (fun i => big[i]?)) (h : ws.all goodWord = true) : GoodIn big ws := by
  intro w hw
  have h1 := List.all_eq_true.mp h w hw
  rw [hp] at hw
  obtain ⟨i, -, hi⟩ := List.mem_filterMap.mp hw
  have hm : w ∈ big := by first | exact List.mem_of_getElem? hi | exact List.getElem?_mem hi
  exact ⟨hm, good_of_word h1⟩
theorem goodIn_app {big a b : List Cond} (ha : GoodIn big a) (hb : GoodIn big b) : GoodIn big (a ++ b) := fun w h => (List.mem_append.mp h).elim (ha w) (hb w)
theorem goodIn_ca {big a b : List Cond} {c : Cond} (ha : GoodIn big (c :: a)) (hb : GoodIn big b) : GoodIn big (c :: (a ++ b)) := fun w h => (List.mem_cons.mp h).elim (fun e => ha w (List.mem_cons.mpr (Or.inl e))) (fun h => (List.mem_append.mp h).elim (fun h => ha w (List.mem_cons.mpr (Or.inr h))) (hb w))
theorem goodIn_sub {big ws : List Cond} (hm : ∀ w ∈ ws, w ∈ big) (h : ws.all goodWord = true) : GoodIn big ws := fun w hw => ⟨hm w hw, good_of_word (List.all_eq_true.mp h w hw)⟩
/-! ===== END ===== -/

/-! ===== BEGIN exceptions that leave a method, and their catching by the caller (launches without stack traces) ===== -/
section VXA
/-! The laws vx_back, vx_callV, vx_callS, vx_callSW, vx_throw0, vx_throwS follow proofs of the library, with one case more: JvmDerived/Free/Laws.lean (Back.of_free), Shelf42/LK1.lean (callV, callS), Shelf/KitTraced.lean (throwNew0V, throwNewS). -/
/-- where a method has thrown q: the class by its name, the cell, what was written, the world -/
def vx_T (XC : String → State → State → Prop) (st : State) (q : Addr) (t : State) (mc ms : Nat) (free : Addr → Prop) : Prop :=
  ∃ (E : String) (ce : Cell) (L : List Loc), XC E st t ∧ t.heap[q]? = some ce ∧ ce.vm = .none ∧ st.vm.findClass E = some ce.cls ∧ st.WarmedH t.vm ∧ st.sameButNew ({ t with vm := st.vm } : State) L mc ms ∧ ∀ z ∈ L, free z.base
def vx_Q (Qc : Array Value → State → Outcome → State → Prop) (XC : String → State → State → Prop) (mc ms : Nat) (free : Addr → Prop) : Array Value → State → Outcome → State → Prop := fun a st o t =>
  (Qc a st o t ∧ ∃ L, FrameEnd st o t L mc ms ∧ ∀ q ∈ L, free q.base) ∨ ∃ q, o = .threw q ∧ vx_T XC st q t mc ms free
/-- a callee that returns or throws -/
def vx_Met (l : Launch) (y : MethodName) (ws : List Cond) (rm : Room) (Pc : Array Value → State → Prop) (Qc : Array Value → State → Outcome → State → Prop) (XC : String → State → State → Prop) (mc ms : Nat) (free : Addr → Prop) : Prop :=
  MetFree l y (headSpec ws rm) Pc (fun _ _ _ _ _ => True) (vx_Q Qc XC mc ms free)
def vx_Post (XC : String → State → State → Prop) (mc ms : Nat) (free : Addr → Prop) : Pt → Array Value → Addr → Pt → Prop := fun A a q B =>
  ∃ (g : JFrame) (mk : MethodId) (t : State) (L : List Loc) (E : String) (ce : Cell), B.U.heap = t.heap ∧ B.U.vm = t.vm ∧ XC E (A.U.calling g mk a) t ∧ t.heap[q]? = some ce ∧ ce.vm = .none ∧ A.U.vm.findClass E = some ce.cls ∧ B.locs = A.locs ++ L ∧ (∀ z ∈ L, free z.base) ∧ B.cells = A.cells + mc ∧ B.slots = A.slots + ms
def vx_Back (l : Launch) (R : Room) (p : Program) (e : Env) (below : List Frame) (s : State) (sargs : Array Value) (y : MethodName) (len W9 : Nat)
    (Pre : Pt → Array Value → Prop) (Post : Pt → Array Value → Option Value → Pt → Prop) (PostX : Pt → Array Value → Addr → Pt → Prop) : Prop :=
  ∀ (m : MethodId) (meth : Method) (c : Code) (A : Pt) (g : JFrame) (ig : Instr) (mk : MethodId) (a : Array Value),
    Stand p l e R s m sargs below meth c A.U A.locs A.cells A.slots → g.method = m → g.locals.size = c.maxLocals → decode c.code g.pc = .ok (ig, len) →
    2 * g.monitorRoom + (g.stack.map fun v => v.category).sum ≤ W9 → A.U.methodNamed? y = some mk → Pre A a →
    (∃ (v : Option Value) (B : Pt), Stand p l e R s m sargs below meth c B.U B.locs B.cells B.slots ∧ Post A a v B ∧
      Steps p.tables e below (doInvoke e (A.U.setTop g) [] mk a).1 (B.U.setTop { g with pc := g.pc + len, stack := v.toList ++ g.stack })) ∨
    (∃ (q : Addr) (B : Pt), Stand p l e R s m sargs below meth c B.U B.locs B.cells B.slots ∧ PostX A a q B ∧
      Steps p.tables e below (doInvoke e (A.U.setTop g) [] mk a).1 ((B.U.setTop g).pushFrame (.throwing q)))
section Payer
variable {l : Launch} {R : Room} {p : Program} {e : Env} {below : List Frame} {s : State} {sargs : Array Value} {y : MethodName} {len W9 : Nat}
theorem vx_back {ws : List Cond} {rm : Room} {Pc : Array Value → State → Prop} {Qc : Array Value → State → Outcome → State → Prop} {XC : String → State → State → Prop} {mc ms : Nat} {free : Addr → Prop} {bytes : ByteArray} {maxL : Nat} {ret : Option FieldType}
    (hM : vx_Met l y ws rm Pc Qc XC mc ms free) (hblind : FrameBlind Pc) (hrc : rm.cells = mc) (hrs : rm.slots = ms)
    (hframes : rm.frames + 1 ≤ R.frames) (hlocals : W9 + (maxL + 11) + rm.locals ≤ R.locals)
    (hws : ∀ w ∈ ws, ∀ a' U, s.WarmedH U.vm → w.before a' U = true) (hcode : Cond.code y bytes maxL ret ∈ ws) (hinit : ∀ a' U, s.WarmedH U.vm → (Cond.initialized y.cls).before a' U = true) :
    vx_Back l R p e below s sargs y len W9 (PreOf R mc ms Pc) (PostOf Qc mc ms free) (vx_Post XC mc ms free) := by
  intro m meth c A g ig mk a X hg hsize hdg hW hn hp
  have h1 : (headSpec ws rm).pre.before a A.U = true := atoms_intro fun w hw => hws w hw _ _ X.warmed
  have h2 : (Cond.code y bytes maxL ret).before a A.U = true := hws _ hcode _ _ X.warmed
  have h3 : (Cond.initialized y.cls).before a A.U = true := hinit _ _ X.warmed
  have h4 : A.cells + (headSpec ws rm).room.cells ≤ R.cells := by rw [show (headSpec ws rm).room.cells = mc from hrc]; exact hp.1
  have h5 : A.slots + (headSpec ws rm).room.slots ≤ R.slots := by rw [show (headSpec ws rm).room.slots = ms from hrs]; exact hp.2.1
  have hPc : Pc a (A.U.calling g mk a) := hblind _ _ _ _ hp.2.2
  obtain ⟨U, Ls, c0, s0⟩ := A
  dsimp only [Pt.U, Pt.locs, Pt.cells, Pt.slots] at h1 h2 h3 h4 h5 X hn hPc ⊢
  obtain ⟨methY, cY, hmY, hcY, -, hlY, -, -, -, -⟩ := Cond.code_spec hn h2
  obtain ⟨kY, hkY, -⟩ := className_of_methodNamed hn
  have hinitY : kY.init = .initialized := Cond.initialized_spec (findClass_of_methodNamed hn) hkY h3
  have h : At U g.method c below := by rw [hg]; exact X.here
  have hlocals9 : W9 + (maxL + 11) + (headSpec ws rm).room.locals ≤ R.locals := hlocals
  have happ : (headSpec ws rm).appliesLoose y e.platform (U.calling g mk a) = true :=
    Spec.appliesLoose_calling (g := g) h hdg hn hkY hinitY
      (X.room_calling (g := g) (R' := (headSpec ws rm).room) hsize hmY hcY hframes (by rw [hlY]; omega) h4 h5) h1
  obtain ⟨mid, hmid⟩ := h.above
  have hfr : (U.setTop g).frames = (.java g :: mid) ++ below := by rw [State.frames_setTop' g h.top, hmid]; rfl
  obtain ⟨o, s₂, hsteps, -, hend, hq⟩ := Steps.callFree hM p X.admits X.cas X.clock (acts := []) hfr happ hPc trivial
  have hq' : vx_Q Qc XC mc ms free a (U.calling g mk a) o s₂ := hq
  rw [State.frames_setTop' g h.top] at hend
  obtain ⟨g₀, hg0⟩ := Option.isSome_iff_exists.mp h.top
  obtain ⟨r, hr⟩ := State.topJava?_eq_some.mp hg0
  have hr' : (({ U with heap := s₂.heap, slotsUsed := s₂.slotsUsed } : State).setVm s₂.vm).frames = .java g₀ :: r := hr
  rcases hq' with ⟨hqc, L, hfe, hL⟩ | ⟨q, rfl, E, ce, L, hx, hce, hcv, hcl, hW₂, hsm, hL⟩
  · obtain ⟨⟨v, rfl⟩, hW₂, e2, q2, q3, q4, q5, q6⟩ := id hfe
    have e3 : s₂ = ({ (U.calling g mk a).setFrames s₂.frames with heap := s₂.heap, slotsUsed := s₂.slotsUsed } : State).setVm s₂.vm := by
      have : s₂ = ({ s₂ with vm := (U.calling g mk a).vm } : State).setVm s₂.vm := rfl
      rw [e2] at this
      exact this
    obtain ⟨c₂, i₂, len₂, hc₂, hd₂, hf₂⟩ := hend
    have hW' : U.WarmedH s₂.vm := hW₂
    have hcc : c₂ = c := by
      have h1 : s₂.code? g.method = U.code? g.method := by
        rw [State.code?_eq, State.code?_eq, hW'.alike.method?]
      exact Option.some.inj (hc₂.symm.trans (h1.trans h.code))
    subst hcc
    have hlen : len₂ = len := by rw [hdg] at hd₂; cases hd₂; rfl
    subst hlen
    have hs₂ : s₂ = (({ U with heap := s₂.heap, slotsUsed := s₂.slotsUsed } : State).setVm s₂.vm).setTop { g with pc := g.pc + len₂, stack := v.toList ++ g.stack } := by
      refine e3.trans ?_
      rw [hf₂, State.calling_eq h.top, State.setFrames_setFrames, State.setTop_of_frames _ hr', hr]
      rfl
    have hsame : U.sameButNew ({ U with heap := s₂.heap, slotsUsed := s₂.slotsUsed } : State) L mc ms := by
      refine ⟨?_, q2, q3, q4, q5, q6⟩
      obtain ⟨t, ht, -⟩ := State.frames_cons hr
      show ({ U with heap := s₂.heap, slotsUsed := s₂.slotsUsed } : State) = { U.setFrames U.frames with heap := s₂.heap, slotsUsed := s₂.slotsUsed }
      rw [State.setFrames_self ht]
    subst hg
    refine Or.inl ⟨v, ⟨(({ U with heap := s₂.heap, slotsUsed := s₂.slotsUsed } : State).setVm s₂.vm), Ls ++ L, c0 + mc, s0 + ms⟩,
      ⟨X.admits, X.cas, X.clock, X.frames, X.room, X.hears, X.method, X.code, (X.here.setHeapUsed s₂.heap s₂.slotsUsed).setVm hW'.alike, X.tail, State.WarmedH.trans X.warmed hW', X.limits, X.bytes, X.same.trans (hsame.setVm s.vm)⟩,
      ⟨g, mk, s₂, L, rfl, rfl, hqc, rfl, hL, rfl, rfl⟩, ?_⟩
    show Steps p.tables e below _ ((({ U with heap := s₂.heap, slotsUsed := s₂.slotsUsed } : State).setVm s₂.vm).setTop { g with pc := g.pc + len₂, stack := v.toList ++ g.stack })
    rw [← hs₂]
    exact hsteps
  · obtain ⟨e2, q2, q3, q4, q5, q6⟩ := id hsm
    have e3 : s₂ = ({ (U.calling g mk a).setFrames s₂.frames with heap := s₂.heap, slotsUsed := s₂.slotsUsed } : State).setVm s₂.vm := by
      have : s₂ = ({ s₂ with vm := (U.calling g mk a).vm } : State).setVm s₂.vm := rfl
      rw [e2] at this
      exact this
    have hf₂ : s₂.frames = .throwing q :: .java g :: U.frames.tail := hend
    have hW' : U.WarmedH s₂.vm := hW₂
    have hs₂ : s₂ = ((({ U with heap := s₂.heap, slotsUsed := s₂.slotsUsed } : State).setVm s₂.vm).setTop g).pushFrame (.throwing q) := by
      refine e3.trans ?_
      rw [hf₂, State.calling_eq h.top, State.setFrames_setFrames, State.pushFrame, State.frames_setTop _ hr', State.setTop_of_frames _ hr', State.setFrames_setFrames, hr]
      rfl
    have hsame : U.sameButNew ({ U with heap := s₂.heap, slotsUsed := s₂.slotsUsed } : State) L mc ms := by
      refine ⟨?_, q2, q3, q4, q5, q6⟩
      obtain ⟨t, ht, -⟩ := State.frames_cons hr
      show ({ U with heap := s₂.heap, slotsUsed := s₂.slotsUsed } : State) = { U.setFrames U.frames with heap := s₂.heap, slotsUsed := s₂.slotsUsed }
      rw [State.setFrames_self ht]
    subst hg
    refine Or.inr ⟨q, ⟨(({ U with heap := s₂.heap, slotsUsed := s₂.slotsUsed } : State).setVm s₂.vm), Ls ++ L, c0 + mc, s0 + ms⟩,
      ⟨X.admits, X.cas, X.clock, X.frames, X.room, X.hears, X.method, X.code, (X.here.setHeapUsed s₂.heap s₂.slotsUsed).setVm hW'.alike, X.tail, State.WarmedH.trans X.warmed hW', X.limits, X.bytes, X.same.trans (hsame.setVm s.vm)⟩,
      ⟨g, mk, s₂, L, E, ce, rfl, rfl, hx, hce, hcv, hcl, rfl, hL, rfl, rfl⟩, ?_⟩
    show Steps p.tables e below _ (((({ U with heap := s₂.heap, slotsUsed := s₂.slotsUsed } : State).setVm s₂.vm).setTop g).pushFrame (.throwing q))
    rw [← hs₂]
    exact hsteps
end Payer
section Calls
variable {p : Program} {l : Launch} {e : Env} {R : Room} {s : State} {m : MethodId} {args : Array Value} {below : List Frame} {meth : Method} {c : Code} {T : State} {locs : List Loc} {cells slots : Nat}
theorem vx_callV (X : Stand p l e R s m args below meth c T locs cells slots) (hexec : p.tables.exec = Jvm.exec) {own C : String} {index : Nat} {y : MethodName} {bytes : ByteArray} {maxL : Nat} {ret : Option FieldType}
    (hown : s.vm.findClass own = some m.cls) (hlink : (Cond.methodLink own index y).before args s = true) (hinst : (Cond.instanceMethod y).before args s = true) (hsel : (Cond.selects C y y).before args s = true)
    (hcode : (Cond.code y bytes maxL ret).before args s = true) (hy : y.cls ≠ "java/lang/invoke/MethodHandle" ∧ y.cls ≠ "java/lang/invoke/VarHandle")
    {W9 : Nat} {Pre : Pt → Array Value → Prop} {Post : Pt → Array Value → Option Value → Pt → Prop} {PostX : Pt → Array Value → Addr → Pt → Prop} (hK : vx_Back l R p e below s args y 3 W9 Pre Post PostX)
    {b : Addr} {cellB : Cell} (hcell : T.heap[b]? = some cellB) (hobj : cellB.vm.isStatics = false) (hcls : s.vm.findClass C = some cellB.cls)
    {g : JFrame} (hg : g.method = m) (hsize : g.locals.size = c.maxLocals) {argsL rest : List Value} (hlen : ∀ sig, parseMethodDescriptor y.desc = some sig → argsL.length = sig.parameters.length)
    (hstack : g.stack = argsL.reverse ++ .ref b :: rest) (hW : 2 * g.monitorRoom + (rest.map fun v => v.category).sum ≤ W9) (hdg : decode c.code g.pc = .ok (.invokevirtual index, 3))
    (hpre : ∀ vm₁, s.WarmedH vm₁ → Pre ⟨T.setVm vm₁, locs, cells, slots⟩ (Value.ref b :: argsL).toArray) :
    (∃ (v : Option Value) (vm₁ : Vm) (B : Pt), s.WarmedH vm₁ ∧ Stand p l e R s m args below meth c B.U B.locs B.cells B.slots ∧ Post ⟨T.setVm vm₁, locs, cells, slots⟩ (Value.ref b :: argsL).toArray v B ∧
      ∀ target, Steps p.tables e below (B.U.setTop { g with pc := g.pc + 3, stack := v.toList ++ rest }) target → Steps p.tables e below (T.setTop g) target) ∨
    (∃ (q : Addr) (vm₁ : Vm) (B : Pt), s.WarmedH vm₁ ∧ Stand p l e R s m args below meth c B.U B.locs B.cells B.slots ∧ PostX ⟨T.setVm vm₁, locs, cells, slots⟩ (Value.ref b :: argsL).toArray q B ∧
      Steps p.tables e below (T.setTop g) ((B.U.setTop { g with stack := rest }).pushFrame (.throwing q))) := by
  obtain ⟨mk, methM, hnamed, hmethM, hstM, habM⟩ := Cond.instanceMethod_spec hinst
  obtain ⟨methM', cM, hmethM', -, -, -, -, -, -, hsigM⟩ := Cond.code_spec hnamed hcode
  cases hmethM.symm.trans hmethM'
  obtain ⟨c2, r2, m2, q1, q2, q3, q4, kP, hkP, hkPi⟩ := Cond.selects_spec hsel
  cases hcls.symm.trans q1
  cases (State.methodFound?_of_named hnamed hy).symm.trans q2
  cases hnamed.symm.trans q3
  have hselP : selectMethod e.platform s.vm cellB.cls mk = .method mk := by rw [Launch.admits_selectMethod X.admits]; exact q4
  obtain ⟨vm₁, X₁, hstep₁⟩ := X.invokevirtual hexec hown hlink hnamed hmethM hstM hkP hkPi hy (a := b) (cell := cellB) hcell
    (fun z h => by rw [h] at hobj; cases hobj) hselP hmethM habM hkP hkPi (g := g) hg (argsL := argsL) (rest := rest) (hlen _ hsigM) hstack hdg
  rcases hK m meth c ⟨T.setVm vm₁, locs, cells, slots⟩ { g with stack := rest } (.invokevirtual index) mk (Value.ref b :: argsL).toArray X₁ hg hsize hdg hW (X₁.named hnamed) (hpre vm₁ X₁.warmed) with ⟨v, B, X', hpost, hsteps⟩ | ⟨q, B, X', hpost, hsteps⟩
  · exact Or.inl ⟨v, vm₁, B, X₁.warmed, X', hpost, fun target h => hstep₁ _ fun acts => by rw [doInvoke_state]; exact hsteps.trans h⟩
  · exact Or.inr ⟨q, vm₁, B, X₁.warmed, X', hpost, hstep₁ _ fun acts => by rw [doInvoke_state]; exact hsteps⟩
theorem vx_callS (X : Stand p l e R s m args below meth c T locs cells slots) (hexec : p.tables.exec = Jvm.exec) {own : String} {index : Nat} {y : MethodName} {bytes : ByteArray} {maxL : Nat} {ret : Option FieldType}
    (hown : s.vm.findClass own = some m.cls) (hlink : (Cond.methodLink own index y).before args s = true) (hstat : (Cond.static y).before args s = true) (hinit : (Cond.initialized y.cls).before args s = true)
    (hcode : (Cond.code y bytes maxL ret).before args s = true) (hy : y.cls ≠ "java/lang/invoke/MethodHandle" ∧ y.cls ≠ "java/lang/invoke/VarHandle")
    {W9 : Nat} {Pre : Pt → Array Value → Prop} {Post : Pt → Array Value → Option Value → Pt → Prop} {PostX : Pt → Array Value → Addr → Pt → Prop} (hK : vx_Back l R p e below s args y 3 W9 Pre Post PostX)
    {g : JFrame} (hg : g.method = m) (hsize : g.locals.size = c.maxLocals) {argsL rest : List Value} (hlen : ∀ sig, parseMethodDescriptor y.desc = some sig → argsL.length = sig.parameters.length)
    (hstack : g.stack = argsL.reverse ++ rest) (hW : 2 * g.monitorRoom + (rest.map fun v => v.category).sum ≤ W9) (hdg : decode c.code g.pc = .ok (.invokestatic index, 3))
    (hpre : ∀ vm₁, s.WarmedH vm₁ → Pre ⟨T.setVm vm₁, locs, cells, slots⟩ argsL.toArray) :
    (∃ (v : Option Value) (vm₁ : Vm) (B : Pt), s.WarmedH vm₁ ∧ Stand p l e R s m args below meth c B.U B.locs B.cells B.slots ∧ Post ⟨T.setVm vm₁, locs, cells, slots⟩ argsL.toArray v B ∧
      ∀ target, Steps p.tables e below (B.U.setTop { g with pc := g.pc + 3, stack := v.toList ++ rest }) target → Steps p.tables e below (T.setTop g) target) ∨
    (∃ (q : Addr) (vm₁ : Vm) (B : Pt), s.WarmedH vm₁ ∧ Stand p l e R s m args below meth c B.U B.locs B.cells B.slots ∧ PostX ⟨T.setVm vm₁, locs, cells, slots⟩ argsL.toArray q B ∧
      Steps p.tables e below (T.setTop g) ((B.U.setTop { g with stack := rest }).pushFrame (.throwing q))) := by
  obtain ⟨mk, hnamed⟩ := Cond.code_named hcode
  obtain ⟨methM, cM, hmethM, -, -, -, -, -, -, hsigM⟩ := Cond.code_spec hnamed hcode
  have hstatic : methM.isStatic = true := Cond.static_spec hnamed hmethM hstat
  obtain ⟨kP, hkP, -⟩ := className_of_methodNamed hnamed
  have hinitP : kP.init = .initialized := Cond.initialized_spec (findClass_of_methodNamed hnamed) hkP hinit
  obtain ⟨vm₁, X₁, hstep₁⟩ := X.invokestatic hexec hown hlink hnamed hmethM hstatic hkP hinitP hy (g := g) hg (argsL := argsL) (rest := rest) (hlen _ hsigM) hstack hdg
  rcases hK m meth c ⟨T.setVm vm₁, locs, cells, slots⟩ { g with stack := rest } (.invokestatic index) mk argsL.toArray X₁ hg hsize hdg hW (X₁.named hnamed) (hpre vm₁ X₁.warmed) with ⟨v, B, X', hpost, hsteps⟩ | ⟨q, B, X', hpost, hsteps⟩
  · exact Or.inl ⟨v, vm₁, B, X₁.warmed, X', hpost, fun target h => hstep₁ _ fun acts => by rw [doInvoke_state]; exact hsteps.trans h⟩
  · exact Or.inr ⟨q, vm₁, B, X₁.warmed, X', hpost, hstep₁ _ fun acts => by rw [doInvoke_state]; exact hsteps⟩
end Calls
theorem vx_cls {s : State} {T : State} {vm₁ : Vm} {E : String} {k : ClassId} (hW : s.WarmedH vm₁) (h : (T.setVm vm₁).vm.findClass E = some k) : s.vm.findClass E = some k := by
  have h1 : vm₁.findClass E = some k := h
  rw [hW.alike.findClass] at h1
  exact h1
/-- the method's frame g, with q thrown over it -/
def vx_W (p : Program) (l : Launch) (e : Env) (R : Room) (s : State) (m : MethodId) (args : Array Value) (below : List Frame) (meth : Method) (c : Code) (H : Heap) (locs : List Loc) (cells slots : Nat) (Q : State → Prop) (g : JFrame) (q : Addr) : Prop :=
  ∀ T : State, T.heap = H → Stand p l e R s m args below meth c T locs cells slots → ∃ t, Steps p.tables e below ((T.setTop g).pushFrame (.throwing q)) t ∧ Q t
def vx_Run (p : Program) (l : Launch) (e : Env) (R : Room) (s : State) (m : MethodId) (args : Array Value) (below : List Frame) (meth : Method) (c : Code) (H : Heap) (locs : List Loc) (cells slots mc ms : Nat) (g : JFrame) (rest : List Value) (Qa : State → Outcome → State → Prop) (XC : String → State → State → Prop) (free : Addr → Prop) : Prop :=
  ∀ T : State, T.heap = H → Stand p l e R s m args below meth c T locs cells slots →
    (∃ (v : Option Value) (st₀ t T' : State) (L : List Loc), st₀.heap = H ∧ Stand p l e R s m args below meth c T' (locs ++ L) (cells + mc) (slots + ms) ∧ (∀ q ∈ L, free q.base) ∧ T'.heap = t.heap ∧ T'.vm = t.vm ∧ Qa st₀ (.returned v) t ∧
      Goes p e below T g T' { g with pc := g.pc + 3, stack := v.toList ++ rest }) ∨
    (∃ (q : Addr) (st₀ t T' : State) (L : List Loc) (E : String) (ce : Cell), st₀.heap = H ∧ Stand p l e R s m args below meth c T' (locs ++ L) (cells + mc) (slots + ms) ∧ (∀ z ∈ L, free z.base) ∧ T'.heap = t.heap ∧ T'.vm = t.vm ∧ XC E st₀ t ∧ t.heap[q]? = some ce ∧ ce.vm = .none ∧ s.vm.findClass E = some ce.cls ∧
      Steps p.tables e below (T.setTop g) ((T'.setTop { g with stack := rest }).pushFrame (.throwing q)))
def vx_X {S : Type} (px : S → Prop) (B : String → S → State → Prop) (A : Nat → Prop) : String → State → State → Prop := fun E st t => ∃ u : S, px u ∧ B E u t ∧ va_F A st t
section Runs
variable {p : Program} {l : Launch} {e : Env} {R : Room} {s : State} {m : MethodId} {args : Array Value} {below : List Frame} {meth : Method} {c : Code} {H : Heap} {locs : List Loc} {cells slots : Nat}
variable {y : MethodName} {bytes cc : ByteArray} {maxL nL mc ms n index : Nat} {ret : Option FieldType} {ws : List Cond} {rm : Room} {Pc : Array Value → State → Prop} {Qc : Array Value → State → Outcome → State → Prop} {XC : String → State → State → Prop} {free : Addr → Prop} {Ts : List Cond} {own C : String} {b : Addr} {As rest : List Value} {g : JFrame}
theorem vx_callBack (cb : CallB R s args own index y bytes maxL ret ws rm mc ms n) (hM : vx_Met l y ws rm Pc Qc XC mc ms free) (hbl : FrameBlind Pc) : vx_Back l R p e below s args y 3 8 (PreOf R mc ms Pc) (PostOf Qc mc ms free) (vx_Post XC mc ms free) := by
  obtain ⟨hrc, hrs, hfr, hlo, hws, hcw, -, hini, -⟩ := cb
  exact vx_back (bytes := bytes) (maxL := maxL) (ret := ret) hM hbl hrc hrs hfr hlo hws hcw (fun a' U hW => word_at hW (Or.inl (by first | rfl | simp [Cond.onTables, Cond.keeps, Cond.steady])) hini)
theorem vx_runV (S : CallFix p m c cc nL s args Ts own) (hM : vx_Met l y ws rm Pc Qc XC mc ms free) (cw : CallW R s args own C index y bytes maxL ret ws rm mc ms n) (hp : PreV s H C b Pc As)
    (hg : g.method = m) (hn : As.length = n) (hsize : g.locals.size = nL) (hstack : g.stack = As.reverse ++ .ref b :: rest) (hW : 2 * g.monitorRoom + (rest.map fun v => v.category).sum ≤ 8) (hdg : decode cc g.pc = .ok (.invokevirtual index, 3)) (hf : cells + mc ≤ R.cells ∧ slots + ms ≤ R.slots) :
    vx_Run p l e R s m args below meth c H locs cells slots mc ms g rest (Qc (Value.ref b :: As).toArray) XC free := by
  have hK : vx_Back l R p e below s args y 3 8 (PreOf R mc ms Pc) (PostOf Qc mc ms free) (vx_Post XC mc ms free) := vx_callBack cw.1 hM hp.1
  obtain ⟨⟨-, -, -, -, -, -, hcode, -, hy, hlen, hl⟩, hin, hse⟩ := cw
  obtain ⟨hx, hb, hml, ho, -⟩ := S
  obtain ⟨-, ⟨cellB, hcB, hoB, hclB⟩, hPc⟩ := hp
  intro T hT X
  rcases vx_callV X hx (C := C) (bytes := bytes) (maxL := maxL) (ret := ret) ho hl hin hse hcode hy hK (by rw [hT]; exact hcB) hoB hclB hg (hsize.trans hml.symm) (argsL := As) (rest := rest) (fun sig h => hn.trans (hlen sig h)) hstack hW (by rw [hb]; exact hdg)
    (fun vm₁ hW₁ => ⟨hf.1, hf.2, hPc (T.setVm vm₁) hT hW₁⟩) with ⟨v, vm₁, ⟨U', l2, c2, s2⟩, hW₁, X', ⟨g', mk, t, L, e1, e2, hq, h1, hL, h2, h3⟩, st⟩ | ⟨q, vm₁, ⟨U', l2, c2, s2⟩, hW₁, X', ⟨g', mk, t, L, E, ce, e1, e2, hq, hce, hcv, hcl, h1, hL, h2, h3⟩, st⟩
  · dsimp only [Pt.U, Pt.locs, Pt.cells, Pt.slots] at X' e1 e2 h1 h2 h3 st
    subst h1; subst h2; subst h3
    exact Or.inl ⟨v, (T.setVm vm₁).calling g' mk (Value.ref b :: As).toArray, t, U', L, hT, X', hL, e1, e2, hq, st⟩
  · dsimp only [Pt.U, Pt.locs, Pt.cells, Pt.slots] at X' e1 e2 h1 h2 h3 st hcl
    subst h1; subst h2; subst h3
    exact Or.inr ⟨q, (T.setVm vm₁).calling g' mk (Value.ref b :: As).toArray, t, U', L, E, ce, hT, X', hL, e1, e2, hq, hce, hcv, vx_cls hW₁ hcl, st⟩
theorem vx_runS (S : CallFix p m c cc nL s args Ts own) (hM : vx_Met l y ws rm Pc Qc XC mc ms free) (cw : CallB R s args own index y bytes maxL ret ws rm mc ms n ∧ (Cond.static y).before args s = true) (hp : PreS s H Pc As)
    (hg : g.method = m) (hn : As.length = n) (hsize : g.locals.size = nL) (hstack : g.stack = As.reverse ++ rest) (hW : 2 * g.monitorRoom + (rest.map fun v => v.category).sum ≤ 8) (hdg : decode cc g.pc = .ok (.invokestatic index, 3)) (hf : cells + mc ≤ R.cells ∧ slots + ms ≤ R.slots) :
    vx_Run p l e R s m args below meth c H locs cells slots mc ms g rest (Qc As.toArray) XC free := by
  have hK : vx_Back l R p e below s args y 3 8 (PreOf R mc ms Pc) (PostOf Qc mc ms free) (vx_Post XC mc ms free) := vx_callBack cw.1 hM hp.1
  obtain ⟨⟨-, -, -, -, -, -, hcode, hini, hy, hlen, hl⟩, hstt⟩ := cw
  obtain ⟨hx, hb, hml, ho, -⟩ := S
  intro T hT X
  rcases vx_callS X hx (bytes := bytes) (maxL := maxL) (ret := ret) ho hl hstt hini hcode hy hK hg (hsize.trans hml.symm) (argsL := As) (rest := rest) (fun sig h => hn.trans (hlen sig h)) hstack hW (by rw [hb]; exact hdg)
    (fun vm₁ hW₁ => ⟨hf.1, hf.2, hp.2 (T.setVm vm₁) hT hW₁⟩) with ⟨v, vm₁, ⟨U', l2, c2, s2⟩, hW₁, X', ⟨g', mk, t, L, e1, e2, hq, h1, hL, h2, h3⟩, st⟩ | ⟨q, vm₁, ⟨U', l2, c2, s2⟩, hW₁, X', ⟨g', mk, t, L, E, ce, e1, e2, hq, hce, hcv, hcl, h1, hL, h2, h3⟩, st⟩
  · dsimp only [Pt.U, Pt.locs, Pt.cells, Pt.slots] at X' e1 e2 h1 h2 h3 st
    subst h1; subst h2; subst h3
    exact Or.inl ⟨v, (T.setVm vm₁).calling g' mk As.toArray, t, U', L, hT, X', hL, e1, e2, hq, st⟩
  · dsimp only [Pt.U, Pt.locs, Pt.cells, Pt.slots] at X' e1 e2 h1 h2 h3 st hcl
    subst h1; subst h2; subst h3
    exact Or.inr ⟨q, (T.setVm vm₁).calling g' mk As.toArray, t, U', L, E, ce, hT, X', hL, e1, e2, hq, hce, hcv, vx_cls hW₁ hcl, st⟩
end Runs
section Rows
variable {p : Program} {l : Launch} {e : Env} {R : Room} {s : State} {m : MethodId} {args : Array Value} {below : List Frame} {meth : Method} {c : Code} {H : Heap} {locs : List Loc} {cells slots : Nat} {Q : State → Prop}
variable {mc ms : Nat} {free : Addr → Prop} {A0 A1 : Nat → Prop} {H0 : Heap} {a : Array Value} {pc : Nat} {ls : Array Slot} {st0 rest : List Value}
theorem vx_keep {st₀ t T' : State} {L : List Loc} (h0 : st₀.heap = H) (e1 : T'.heap = t.heap) (hS : va_S A0 H0 H locs) (hA : ∀ q, q < H.size → A1 q → A0 q) (hf : ∀ q, free q → A0 q) (hL : ∀ q ∈ L, free q.base) (hF : va_F A1 st₀ t) :
    H.size ≤ T'.heap.size ∧ (∀ q : Nat, q < H.size → ¬ A1 q → T'.heap[q]? = H[q]?) ∧ va_S A0 H0 T'.heap (locs ++ L) := by
  obtain ⟨hz, hk⟩ := hF
  rw [h0] at hz hk
  exact ⟨by rw [e1]; exact hz, fun q h1 h2 => by rw [e1]; exact hk q h1 h2,
    ⟨Nat.le_trans hS.1 (by rw [e1]; exact hz), fun q h1 h2 => by rw [e1, hk q (Nat.lt_of_lt_of_le h1 hS.1) (fun z => h2 (hA q (Nat.lt_of_lt_of_le h1 hS.1) z))]; exact hS.2.1 q h1 h2, fun q hq => by
      rcases List.mem_append.mp hq with h | h
      · exact hS.2.2 q h
      · exact hf _ (hL q h)⟩⟩
theorem vx_calli {S SX : Type} {post : Int32 → S → Prop} {px : SX → Prop} {B : S → State → Prop} {BX : String → SX → State → Prop} {AX : Nat → Prop} (hr : vx_Run p l e R s m args below meth c H locs cells slots mc ms (F0 m pc ls st0) rest (va_Qi post B A1 a) (vx_X px BX AX) free) (hS : va_S A0 H0 H locs) (hA : ∀ q, q < H.size → A1 q → A0 q) (hf : ∀ q, free q → A0 q) (hAX : ∀ q, q < H.size → AX q → A0 q)
    (kx : ∀ (E : String) (ce : Cell) (q9 : Addr) (u : SX) (t : State) (H1 : Heap) (locs1 : List Loc), t.heap = H1 → s.vm.Alike t.vm → px u → BX E u t → H.size ≤ H1.size → (∀ q : Nat, q < H.size → ¬ AX q → H1[q]? = H[q]?) → va_S A0 H0 H1 locs1 → H1[q9]? = some ce → ce.vm = .none → s.vm.findClass E = some ce.cls → vx_W p l e R s m args below meth c H1 locs1 (cells + mc) (slots + ms) Q (F0 m pc ls rest) q9)
    (kk : ∀ (r : Int32) (u : S) (t : State) (H1 : Heap) (locs1 : List Loc), t.heap = H1 → s.vm.Alike t.vm → post r u → B u t → H.size ≤ H1.size → (∀ q : Nat, q < H.size → ¬ A1 q → H1[q]? = H[q]?) → va_S A0 H0 H1 locs1 → W p l e R s m args below meth c H1 locs1 (cells + mc) (slots + ms) Q (F0 m (pc + 3) ls (.int r :: rest))) : W p l e R s m args below meth c H locs cells slots Q (F0 m pc ls st0) := by
  intro T hT X
  rcases hr T hT X with ⟨v, st₀, t, T', L, h0, X', hL, e1, e2, ⟨⟨r, u, hv, hp, hb⟩, hF⟩, st⟩ | ⟨q, st₀, t, T', L, E, ce, h0, X', hL, e1, e2, ⟨u, hp, hb, hF⟩, hce, hcv, hcl, st⟩
  · cases hv
    obtain ⟨k1, k2, k3⟩ := vx_keep h0 e1 hS hA hf hL hF
    obtain ⟨t2, a1, b1⟩ := kk r u t T'.heap (locs ++ L) e1.symm (by rw [← e2]; exact X'.warmed.alike) hp hb k1 k2 k3 T' rfl X'
    exact ⟨t2, st t2 a1, b1⟩
  · obtain ⟨k1, k2, k3⟩ := vx_keep h0 e1 hS hAX hf hL hF
    obtain ⟨t2, a1, b1⟩ := kx E ce q u t T'.heap (locs ++ L) e1.symm (by rw [← e2]; exact X'.warmed.alike) hp hb k1 k2 k3 (by rw [e1]; exact hce) hcv hcl T' rfl X'
    exact ⟨t2, st.trans a1, b1⟩
theorem vx_calll {S SX : Type} {post : Int64 → S → Prop} {px : SX → Prop} {B : S → State → Prop} {BX : String → SX → State → Prop} {AX : Nat → Prop} (hr : vx_Run p l e R s m args below meth c H locs cells slots mc ms (F0 m pc ls st0) rest (va_Ql post B A1 a) (vx_X px BX AX) free) (hS : va_S A0 H0 H locs) (hA : ∀ q, q < H.size → A1 q → A0 q) (hf : ∀ q, free q → A0 q) (hAX : ∀ q, q < H.size → AX q → A0 q)
    (kx : ∀ (E : String) (ce : Cell) (q9 : Addr) (u : SX) (t : State) (H1 : Heap) (locs1 : List Loc), t.heap = H1 → s.vm.Alike t.vm → px u → BX E u t → H.size ≤ H1.size → (∀ q : Nat, q < H.size → ¬ AX q → H1[q]? = H[q]?) → va_S A0 H0 H1 locs1 → H1[q9]? = some ce → ce.vm = .none → s.vm.findClass E = some ce.cls → vx_W p l e R s m args below meth c H1 locs1 (cells + mc) (slots + ms) Q (F0 m pc ls rest) q9)
    (kk : ∀ (r : Int64) (u : S) (t : State) (H1 : Heap) (locs1 : List Loc), t.heap = H1 → s.vm.Alike t.vm → post r u → B u t → H.size ≤ H1.size → (∀ q : Nat, q < H.size → ¬ A1 q → H1[q]? = H[q]?) → va_S A0 H0 H1 locs1 → W p l e R s m args below meth c H1 locs1 (cells + mc) (slots + ms) Q (F0 m (pc + 3) ls (.long r :: rest))) : W p l e R s m args below meth c H locs cells slots Q (F0 m pc ls st0) := by
  intro T hT X
  rcases hr T hT X with ⟨v, st₀, t, T', L, h0, X', hL, e1, e2, ⟨⟨r, u, hv, hp, hb⟩, hF⟩, st⟩ | ⟨q, st₀, t, T', L, E, ce, h0, X', hL, e1, e2, ⟨u, hp, hb, hF⟩, hce, hcv, hcl, st⟩
  · cases hv
    obtain ⟨k1, k2, k3⟩ := vx_keep h0 e1 hS hA hf hL hF
    obtain ⟨t2, a1, b1⟩ := kk r u t T'.heap (locs ++ L) e1.symm (by rw [← e2]; exact X'.warmed.alike) hp hb k1 k2 k3 T' rfl X'
    exact ⟨t2, st t2 a1, b1⟩
  · obtain ⟨k1, k2, k3⟩ := vx_keep h0 e1 hS hAX hf hL hF
    obtain ⟨t2, a1, b1⟩ := kx E ce q u t T'.heap (locs ++ L) e1.symm (by rw [← e2]; exact X'.warmed.alike) hp hb k1 k2 k3 (by rw [e1]; exact hce) hcv hcl T' rfl X'
    exact ⟨t2, st.trans a1, b1⟩
theorem vx_callf {S SX : Type} {post : UInt32 → S → Prop} {px : SX → Prop} {B : S → State → Prop} {BX : String → SX → State → Prop} {AX : Nat → Prop} (hr : vx_Run p l e R s m args below meth c H locs cells slots mc ms (F0 m pc ls st0) rest (va_Qf post B A1 a) (vx_X px BX AX) free) (hS : va_S A0 H0 H locs) (hA : ∀ q, q < H.size → A1 q → A0 q) (hf : ∀ q, free q → A0 q) (hAX : ∀ q, q < H.size → AX q → A0 q)
    (kx : ∀ (E : String) (ce : Cell) (q9 : Addr) (u : SX) (t : State) (H1 : Heap) (locs1 : List Loc), t.heap = H1 → s.vm.Alike t.vm → px u → BX E u t → H.size ≤ H1.size → (∀ q : Nat, q < H.size → ¬ AX q → H1[q]? = H[q]?) → va_S A0 H0 H1 locs1 → H1[q9]? = some ce → ce.vm = .none → s.vm.findClass E = some ce.cls → vx_W p l e R s m args below meth c H1 locs1 (cells + mc) (slots + ms) Q (F0 m pc ls rest) q9)
    (kk : ∀ (r : UInt32) (u : S) (t : State) (H1 : Heap) (locs1 : List Loc), t.heap = H1 → s.vm.Alike t.vm → post r u → B u t → H.size ≤ H1.size → (∀ q : Nat, q < H.size → ¬ A1 q → H1[q]? = H[q]?) → va_S A0 H0 H1 locs1 → W p l e R s m args below meth c H1 locs1 (cells + mc) (slots + ms) Q (F0 m (pc + 3) ls (.float r :: rest))) : W p l e R s m args below meth c H locs cells slots Q (F0 m pc ls st0) := by
  intro T hT X
  rcases hr T hT X with ⟨v, st₀, t, T', L, h0, X', hL, e1, e2, ⟨⟨r, u, hv, hp, hb⟩, hF⟩, st⟩ | ⟨q, st₀, t, T', L, E, ce, h0, X', hL, e1, e2, ⟨u, hp, hb, hF⟩, hce, hcv, hcl, st⟩
  · cases hv
    obtain ⟨k1, k2, k3⟩ := vx_keep h0 e1 hS hA hf hL hF
    obtain ⟨t2, a1, b1⟩ := kk r u t T'.heap (locs ++ L) e1.symm (by rw [← e2]; exact X'.warmed.alike) hp hb k1 k2 k3 T' rfl X'
    exact ⟨t2, st t2 a1, b1⟩
  · obtain ⟨k1, k2, k3⟩ := vx_keep h0 e1 hS hAX hf hL hF
    obtain ⟨t2, a1, b1⟩ := kx E ce q u t T'.heap (locs ++ L) e1.symm (by rw [← e2]; exact X'.warmed.alike) hp hb k1 k2 k3 (by rw [e1]; exact hce) hcv hcl T' rfl X'
    exact ⟨t2, st.trans a1, b1⟩
theorem vx_calld {S SX : Type} {post : UInt64 → S → Prop} {px : SX → Prop} {B : S → State → Prop} {BX : String → SX → State → Prop} {AX : Nat → Prop} (hr : vx_Run p l e R s m args below meth c H locs cells slots mc ms (F0 m pc ls st0) rest (va_Qd post B A1 a) (vx_X px BX AX) free) (hS : va_S A0 H0 H locs) (hA : ∀ q, q < H.size → A1 q → A0 q) (hf : ∀ q, free q → A0 q) (hAX : ∀ q, q < H.size → AX q → A0 q)
    (kx : ∀ (E : String) (ce : Cell) (q9 : Addr) (u : SX) (t : State) (H1 : Heap) (locs1 : List Loc), t.heap = H1 → s.vm.Alike t.vm → px u → BX E u t → H.size ≤ H1.size → (∀ q : Nat, q < H.size → ¬ AX q → H1[q]? = H[q]?) → va_S A0 H0 H1 locs1 → H1[q9]? = some ce → ce.vm = .none → s.vm.findClass E = some ce.cls → vx_W p l e R s m args below meth c H1 locs1 (cells + mc) (slots + ms) Q (F0 m pc ls rest) q9)
    (kk : ∀ (r : UInt64) (u : S) (t : State) (H1 : Heap) (locs1 : List Loc), t.heap = H1 → s.vm.Alike t.vm → post r u → B u t → H.size ≤ H1.size → (∀ q : Nat, q < H.size → ¬ A1 q → H1[q]? = H[q]?) → va_S A0 H0 H1 locs1 → W p l e R s m args below meth c H1 locs1 (cells + mc) (slots + ms) Q (F0 m (pc + 3) ls (.double r :: rest))) : W p l e R s m args below meth c H locs cells slots Q (F0 m pc ls st0) := by
  intro T hT X
  rcases hr T hT X with ⟨v, st₀, t, T', L, h0, X', hL, e1, e2, ⟨⟨r, u, hv, hp, hb⟩, hF⟩, st⟩ | ⟨q, st₀, t, T', L, E, ce, h0, X', hL, e1, e2, ⟨u, hp, hb, hF⟩, hce, hcv, hcl, st⟩
  · cases hv
    obtain ⟨k1, k2, k3⟩ := vx_keep h0 e1 hS hA hf hL hF
    obtain ⟨t2, a1, b1⟩ := kk r u t T'.heap (locs ++ L) e1.symm (by rw [← e2]; exact X'.warmed.alike) hp hb k1 k2 k3 T' rfl X'
    exact ⟨t2, st t2 a1, b1⟩
  · obtain ⟨k1, k2, k3⟩ := vx_keep h0 e1 hS hAX hf hL hF
    obtain ⟨t2, a1, b1⟩ := kx E ce q u t T'.heap (locs ++ L) e1.symm (by rw [← e2]; exact X'.warmed.alike) hp hb k1 k2 k3 (by rw [e1]; exact hce) hcv hcl T' rfl X'
    exact ⟨t2, st.trans a1, b1⟩
theorem vx_callv {S SX : Type} {post : S → Prop} {px : SX → Prop} {B : S → State → Prop} {BX : String → SX → State → Prop} {AX : Nat → Prop} (hr : vx_Run p l e R s m args below meth c H locs cells slots mc ms (F0 m pc ls st0) rest (va_Qv post B A1 a) (vx_X px BX AX) free) (hS : va_S A0 H0 H locs) (hA : ∀ q, q < H.size → A1 q → A0 q) (hf : ∀ q, free q → A0 q) (hAX : ∀ q, q < H.size → AX q → A0 q)
    (kx : ∀ (E : String) (ce : Cell) (q9 : Addr) (u : SX) (t : State) (H1 : Heap) (locs1 : List Loc), t.heap = H1 → s.vm.Alike t.vm → px u → BX E u t → H.size ≤ H1.size → (∀ q : Nat, q < H.size → ¬ AX q → H1[q]? = H[q]?) → va_S A0 H0 H1 locs1 → H1[q9]? = some ce → ce.vm = .none → s.vm.findClass E = some ce.cls → vx_W p l e R s m args below meth c H1 locs1 (cells + mc) (slots + ms) Q (F0 m pc ls rest) q9)
    (kk : ∀ (u : S) (t : State) (H1 : Heap) (locs1 : List Loc), t.heap = H1 → s.vm.Alike t.vm → post u → B u t → H.size ≤ H1.size → (∀ q : Nat, q < H.size → ¬ A1 q → H1[q]? = H[q]?) → va_S A0 H0 H1 locs1 → W p l e R s m args below meth c H1 locs1 (cells + mc) (slots + ms) Q (F0 m (pc + 3) ls (rest))) : W p l e R s m args below meth c H locs cells slots Q (F0 m pc ls st0) := by
  intro T hT X
  rcases hr T hT X with ⟨v, st₀, t, T', L, h0, X', hL, e1, e2, ⟨⟨u, hv, hp, hb⟩, hF⟩, st⟩ | ⟨q, st₀, t, T', L, E, ce, h0, X', hL, e1, e2, ⟨u, hp, hb, hF⟩, hce, hcv, hcl, st⟩
  · cases hv
    obtain ⟨k1, k2, k3⟩ := vx_keep h0 e1 hS hA hf hL hF
    obtain ⟨t2, a1, b1⟩ := kk u t T'.heap (locs ++ L) e1.symm (by rw [← e2]; exact X'.warmed.alike) hp hb k1 k2 k3 T' rfl X'
    exact ⟨t2, st t2 a1, b1⟩
  · obtain ⟨k1, k2, k3⟩ := vx_keep h0 e1 hS hAX hf hL hF
    obtain ⟨t2, a1, b1⟩ := kx E ce q u t T'.heap (locs ++ L) e1.symm (by rw [← e2]; exact X'.warmed.alike) hp hb k1 k2 k3 (by rw [e1]; exact hce) hcv hcl T' rfl X'
    exact ⟨t2, st.trans a1, b1⟩
/-- caught by the row x of this method's table; the rows ahead don't take it -/
theorem vx_catch {own name : String} {E : String} {ce : Cell} {q : Addr} (hown : s.vm.findClass own = some m.cls) (pre : List ExceptionTableEntry) (x : ExceptionTableEntry) (suf : List ExceptionTableEntry) (hsplit : c.exceptionTable.toList = pre ++ x :: suf)
    (hpass : ∀ z ∈ pre, covers z pc = false ∨ (z.catchType ≠ 0 ∧ ∃ nm : String, (Cond.classLink own z.catchType nm).before args s = true ∧ va_Nc E nm s)) (hx : covers x pc = true) (h0 : x.catchType ≠ 0)
    (hlink : (Cond.classLink own x.catchType name).before args s = true) (hcast : (Cond.castable E name).before args s = true) (hcell : H[q]? = some ce) (hv : ce.vm = .none) (hcl : s.vm.findClass E = some ce.cls)
    (kk : W p l e R s m args below meth c H locs cells slots Q (F0 m x.handlerPc ls [.ref q])) : vx_W p l e R s m args below meth c H locs cells slots Q (F0 m pc ls rest) q := by
  intro T hT X
  have hpl : e.platform.magicAccessors = ({} : Platform).magicAccessors := by rw [X.admits.platform]
  obtain ⟨c3, c4, hc3, hc4, hasg⟩ := Cond.castable_spec hcast
  cases Option.some.inj (hc3.symm.trans hcl)
  obtain ⟨c5, hc5, hcl5⟩ := Cond.classLink_spec hown hlink e.platform hpl
  cases Option.some.inj (hc4.symm.trans hc5)
  obtain ⟨vm', X', st⟩ := X.thenCaughtThrough q (g := F0 m pc ls rest) rfl (Steps.refl _) (by rw [hT]; exact hcell) (by rw [hv]; rfl) (by obtain ⟨k9, h9, -⟩ := Vm.findClass_spec hcl; exact ⟨k9, h9⟩) pre x suf hsplit
    (fun z hz => by
      rcases hpass z hz with h | ⟨hz0, nm, hl1, hn1⟩
      · exact Or.inl h
      · obtain ⟨c6, hc6, hcl6⟩ := Cond.classLink_spec hown hl1 e.platform hpl
        obtain ⟨a8, b8, h1, h2, h3⟩ := hn1
        cases Option.some.inj (h1.symm.trans hcl)
        cases Option.some.inj (h2.symm.trans hc6)
        exact Or.inr ⟨hz0, _, hcl6, h3⟩) hx (Or.inr ⟨h0, c4, hcl5, hasg⟩)
  obtain ⟨t, a1, b1⟩ := kk (T.setVm vm') hT X'
  exact ⟨t, st.trans a1, b1⟩
end Rows
section Ends
variable {p : Program} {l : Launch} {e : Env} {R : Room} {s : State} {m : MethodId} {args : Array Value} {below : List Frame} {meth : Method} {c : Code} {H : Heap} {locs : List Loc} {cells slots : Nat} {Q : State → Prop}
variable {mc ms : Nat} {free : Addr → Prop} {A0 A1 : Nat → Prop} {H0 : Heap} {a : Array Value} {ls : Array Slot} {st0 rest : List Value}
variable {Qc : Array Value → State → Outcome → State → Prop} {XC : String → State → State → Prop}
/-- what a body that may throw owes at its end -/
def vx_MQ (below : List Frame) (Qc : Array Value → State → Outcome → State → Prop) (XC : String → State → State → Prop) (a : Array Value) (s : State) (mc ms : Nat) (free : Addr → Prop) : State → Prop := fun t =>
  ∃ o, t.status = .running ∧ Ended t below o ∧ vx_Q Qc XC mc ms free a s o t
theorem vx_ret {g : JFrame} {mc ms : Nat} (k : W p l e R s m args below meth c H locs cells slots (MQ below Qc args s mc ms free) g) : W p l e R s m args below meth c H locs cells slots (vx_MQ below Qc XC args s mc ms free) g := by
  intro T hT X
  obtain ⟨t, a1, o, b1, b2, b3, b4⟩ := k T hT X
  exact ⟨t, a1, o, b1, b2, Or.inl ⟨b3, b4⟩⟩
/-- not caught here: it goes on to the caller -/
theorem vx_widen {g : JFrame} {q : Addr} {k n : Nat} (h1 : cells ≤ k) (h2 : slots ≤ n) (kk : vx_W p l e R s m args below meth c H locs k n Q g q) : vx_W p l e R s m args below meth c H locs cells slots Q g q := fun T hT X => kk T hT (stand_widen X h1 h2)
theorem vx_out {pc : Nat} {E : String} {ce : Cell} {q : Addr} {mc ms : Nat} (hout : ∀ x ∈ c.exceptionTable.toList, covers x pc = false) (hlocks : meth.locks = false) (hcell : H[q]? = some ce) (hv : ce.vm = .none) (hcl : s.vm.findClass E = some ce.cls)
    (hx : ∀ t : State, t.heap = H → s.vm.Alike t.vm → XC E s t) (hf : ∀ z ∈ locs, free z.base) (hc : cells ≤ mc) (hs : slots ≤ ms) :
    vx_W p l e R s m args below meth c H locs cells slots (vx_MQ below Qc XC args s mc ms free) (F0 m pc ls rest) q := by
  intro T hT X
  obtain ⟨st1, hrun, hend, hW, hsm⟩ := X.leaveThrown q (g := F0 m pc ls rest) rfl rfl rfl hout hlocks
  have hcell9 : (T.setFrames (.throwing q :: below)).heap[q]? = some ce := by
    show T.heap[q]? = some ce
    rw [hT]; exact hcell
  exact ⟨_, st1, .threw q, hrun, hend, Or.inr ⟨q, rfl, E, ce, locs, hx _ hT hW.alike, hcell9, hv, hcl, hW, hsm.mono hc hs, hf⟩⟩
theorem vx_frame {U : State} {k n : Nat} (h : s.sameButNew ({ U with vm := s.vm } : State) locs k n) : s.heap.size ≤ U.heap.size ∧ ∀ q : Nat, q < s.heap.size → (∀ z ∈ locs, z.base ≠ q) → U.heap[q]? = s.heap[q]? := by
  obtain ⟨-, h2, -, -, -, h6⟩ := h
  refine ⟨h2, fun q hq hz => ?_⟩
  obtain ⟨c9, e1, e2, e3, e4⟩ := h6 q _ (Array.getElem?_eq_getElem hq)
  have hs : c9.slots = (s.heap[q]).slots := Array.ext_getElem? fun i => e4 i fun hm => hz _ hm rfl
  have h9 : c9 = s.heap[q] := by
    rw [hs] at e2
    exact e2
  have e5 : U.heap[q]? = some c9 := e1
  rw [e5, h9, Array.getElem?_eq_getElem hq]
/-- the words of a throw but the four that speak of the heap -/
def vx_no (w : Cond) : Bool := decide (w ≠ .isRef (.static Bundle.tN "UNASSIGNED_STACK" Bundle.steD)) && decide (w ≠ .isRef (.static Bundle.tN "SUPPRESSED_SENTINEL" Bundle.listD)) && decide (w ≠ .laysStatic Bundle.tN "UNASSIGNED_STACK" Bundle.steD) && decide (w ≠ .laysStatic Bundle.tN "SUPPRESSED_SENTINEL" Bundle.listD)
def vx_at0 (own : String) (ic : Nat) (X : String) (names : List String) : List Cond := (Bundle.ownAtoms0 own ic X names).filter vx_no
def vx_atS (own : String) (ic : Nat) (X : String) (names : List String) : List Cond := (Bundle.ownAtoms own ic X names).filter vx_no
/-- a word that the tables alone decide, or a good one -/
def vx_ot (w : Cond) : Bool := w.onTables || goodWord w
theorem vx_ot_at {args a' : Array Value} {s U : State} {w : Cond} (hW : s.WarmedH U.vm) (hvm : s.vm = U.vm) (hg : vx_ot w = true) (h : w.before args s = true) : w.before a' U = true := by
  simp only [vx_ot, Bool.or_eq_true] at hg
  rcases hg with hg | hg
  · exact va_tabs hg hvm h
  · exact word_at hW (good_of_word hg) h
/-- a list's words: the good ones out of the method's own list, the others by premises of their own -/
theorem vx_hat {args : Array Value} {s : State} {L B : List Cond} (h1 : ∀ w ∈ L.filter goodWord, w.before args s = true) (h2 : ∀ w ∈ L.filter (fun w => !goodWord w), w ∈ B) (h3 : ∀ w ∈ B, w.before args s = true) : ∀ w ∈ L, w.before args s = true := by
  intro w hw
  by_cases g : goodWord w = true
  · exact h1 w (List.mem_filter.mpr ⟨hw, g⟩)
  · refine h3 w (h2 w (List.mem_filter.mpr ⟨hw, ?_⟩))
    show (!goodWord w) = true
    cases hgw : goodWord w
    · rfl
    · exact absurd hgw g
theorem vx_c {args : Array Value} {s : State} {w : Cond} {B : List Cond} (h : w.before args s = true) (t : ∀ w ∈ B, w.before args s = true) : ∀ w' ∈ w :: B, w'.before args s = true := fun w' h' => (List.mem_cons.mp h').elim (fun e => by rw [e]; exact h) (t w')
theorem vx_n {args : Array Value} {s : State} : ∀ w ∈ ([] : List Cond), w.before args s = true := fun _ h => nomatch h
theorem vx_own {args : Array Value} {s : State} {L : List Cond} (h1 : ∀ w ∈ L.filter vx_no, w.before args s = true)
    (hU : (Cond.isRef (.static Bundle.tN "UNASSIGNED_STACK" Bundle.steD)).before args s = true) (hN : (Cond.isRef (.static Bundle.tN "SUPPRESSED_SENTINEL" Bundle.listD)).before args s = true)
    (lU : (Cond.laysStatic Bundle.tN "UNASSIGNED_STACK" Bundle.steD).before args s = true) (lN : (Cond.laysStatic Bundle.tN "SUPPRESSED_SENTINEL" Bundle.listD).before args s = true) : ∀ w ∈ L, w.before args s = true := by
  intro w hw
  by_cases e1 : w = .isRef (.static Bundle.tN "UNASSIGNED_STACK" Bundle.steD)
  · rw [e1]; exact hU
  · by_cases e2 : w = .isRef (.static Bundle.tN "SUPPRESSED_SENTINEL" Bundle.listD)
    · rw [e2]; exact hN
    · by_cases e3 : w = .laysStatic Bundle.tN "UNASSIGNED_STACK" Bundle.steD
      · rw [e3]; exact lU
      · by_cases e4 : w = .laysStatic Bundle.tN "SUPPRESSED_SENTINEL" Bundle.listD
        · rw [e4]; exact lN
        · exact h1 w (List.mem_filter.mpr ⟨hw, by unfold vx_no; rw [decide_eq_true e1, decide_eq_true e2, decide_eq_true e3, decide_eq_true e4]; rfl⟩)
/-- where a static field lies, its class's statics cell in H -/
def vx_L (C n d : String) (A : Nat → Prop) (U : State) (H : Heap) : Prop := ∃ (c : ClassId) (k : Class) (i : Nat) (f : Field) (a : Nat) (cell : Cell), U.vm.findClass C = some c ∧ U.fieldFound? C n d = some (c, k, i, f) ∧ f.isStatic = true ∧ k.statics = some a ∧ H[a]? = some cell ∧ cell.vm.isStatics = true ∧ cell.cls = c ∧ f.slot < cell.slots.size ∧ k.staticTypes[f.slot]? = some f.type ∧ ¬ A a
theorem vx_L.moved {C n d : String} {A : Nat → Prop} {u U : State} {H : Heap} (hvm : u.vm.Alike U.vm) (h : vx_L C n d A u H) : vx_L C n d A U H := by
  obtain ⟨c, k, i, f, a, cell, h1, h2, h3, h4, h5, h6, h7, h8, h9, h10⟩ := h
  obtain ⟨k', hi', he⟩ := State.fieldFound?_setVm hvm h2
  exact ⟨c, k', i, f, a, cell, by rw [hvm.findClass]; exact h1, hi', h3, by rw [he]; exact h4, h5, h6, h7, h8, by rw [he]; exact h9, h10⟩
theorem vx_L.kept {C n d : String} {A : Nat → Prop} {U : State} {H H1 : Heap} (h : vx_L C n d A U H) (hq : ∀ a : Nat, a < H.size → ¬ A a → H1[a]? = H[a]?) : vx_L C n d A U H1 := by
  obtain ⟨c, k, i, f, a, cell, h1, h2, h3, h4, h5, h6, h7, h8, h9, h10⟩ := h
  exact ⟨c, k, i, f, a, cell, h1, h2, h3, h4, by rw [hq a (Array.getElem?_eq_some_iff.mp h5).1 h10]; exact h5, h6, h7, h8, h9, h10⟩
theorem vx_L.narrow {C n d : String} {A B : Nat → Prop} {U : State} {H : Heap} (h : vx_L C n d A U H) (hAB : ∀ q, B q → A q) : vx_L C n d B U H := by
  obtain ⟨c, k, i, f, a, cell, h1, h2, h3, h4, h5, h6, h7, h8, h9, h10⟩ := h
  exact ⟨c, k, i, f, a, cell, h1, h2, h3, h4, h5, h6, h7, h8, h9, fun z => h10 (hAB _ z)⟩
theorem vx_L.word {C n d : String} {A : Nat → Prop} {s : State} {args : Array Value} (h : vx_L C n d A s s.heap) : (Cond.laysStatic C n d).before args s = true := by
  obtain ⟨c, k, i, f, a, cell, h1, h2, h3, h4, h5, h6, h7, h8, h9, -⟩ := h
  show (Cond.laysStatic C n d).holds args s none s [] = true
  exact Cond.laysStatic_of h1 h2 h3 h4 h5 h6 h7 h8 h9
/-- .. and what it holds: null or some reference -/
def vx_Zq (C n d : String) (A : Nat → Prop) (U : State) (H : Heap) : Prop := va_Zq C n d A U H ∧ vx_L C n d A U H
theorem vx_Zq.moved {C n d : String} {A : Nat → Prop} {u U : State} {H : Heap} (hvm : u.vm.Alike U.vm) (h : vx_Zq C n d A u H) : vx_Zq C n d A U H := ⟨va_Zq.moved hvm h.1, vx_L.moved hvm h.2⟩
theorem vx_Zq.kept {C n d : String} {A : Nat → Prop} {U : State} {H H1 : Heap} (h : vx_Zq C n d A U H) (hq : ∀ a : Nat, a < H.size → ¬ A a → H1[a]? = H[a]?) : vx_Zq C n d A U H1 := ⟨va_Zq.kept h.1 hq, vx_L.kept h.2 hq⟩
theorem vx_Zq.narrow {C n d : String} {A B : Nat → Prop} {U : State} {H : Heap} (h : vx_Zq C n d A U H) (hAB : ∀ q, B q → A q) : vx_Zq C n d B U H := ⟨va_Zq.narrow h.1 hAB, vx_L.narrow h.2 hAB⟩
theorem vx_Zqof {args : Array Value} {s : State} {C n d : String} {A : Nat → Prop} (hl : (Cond.laysStatic C n d).before args s = true) (hini : (Cond.initialized C).before args s = true) (h : (Cond.isRef (.static C n d)).before args s = true) (hA : ∀ a : Nat, a < s.heap.size → ¬ A a) : vx_Zq C n d A s s.heap := by
  refine ⟨va_Zqof hl hini h hA, ?_⟩
  obtain ⟨c, k, i, f, a, cell, h1, h2, h3, h4, h5, h6, h7, h8, h9⟩ := Cond.laysStatic_spec hl
  exact ⟨c, k, i, f, a, cell, h1, h2, h3, h4, h5, h6, h7, h8, h9, hA a (Array.getElem?_eq_some_iff.mp h5).1⟩
theorem vx_isRef {C n d : String} {v : Value} {A : Nat → Prop} {s : State} {args : Array Value} (h : va_Z C n d v A s s.heap) (hv : v.isRef = true) : (Cond.isRef (.static C n d)).before args s = true := by
  obtain ⟨cf, kf, fi, f, a, cell, h1, h2, h3, h4, h5, h6, h7, -⟩ := h
  have he : (Term.static C n d).eval args s none [] s = some v := by
    simp [Term.eval, State.fieldNamed?, h1, h2, h4, h5, h6, h7]
  simp only [Cond.before, Cond.holds, Cond.value, he]
  cases v <;> simp_all [Value.isRef]
theorem vx_isRefq {C n d : String} {A : Nat → Prop} {s : State} {args : Array Value} (h : va_Zq C n d A s s.heap) : (Cond.isRef (.static C n d)).before args s = true := by
  rcases h with h | ⟨t, h⟩
  · exact vx_isRef h rfl
  · exact vx_isRef h rfl
/-- the same frame, seen from here: as if the method were called anew in this heap -/
theorem vx_rebase {T : State} (X : Stand p l e R s m args below meth c T locs cells slots) {R' : Room} (hf : R'.frames ≤ R.frames) (hl : R'.locals ≤ R.locals) (hc : cells + R'.cells ≤ R.cells) (hs : slots + R'.slots ≤ R.slots) :
    Stand p l e R' ((T.setVm s.vm).setFrames (.invoking m args :: below)) m args below meth c T [] 0 0 := by
  have htop : (T.setVm s.vm).topJava?.isSome := X.here.top
  have hF : ((T.setVm s.vm).setFrames (.invoking m args :: below)).frames = .invoking m args :: below := State.frames_setFrames _ (State.cur_lt_of_top htop)
  obtain ⟨g₀, hg0⟩ := Option.isSome_iff_exists.mp htop
  obtain ⟨r, hr⟩ := State.topJava?_eq_some.mp hg0
  have hl9 : e.platform.stackLimits (T.setVm s.vm).me = e.platform.stackLimits s.me := X.limits
  have hb9 : (T.setVm s.vm).me.stackBytes = s.me.stackBytes := X.bytes
  refine ⟨X.admits, X.cas, X.clock, hF, ?_, X.hears, X.method, X.code, X.here, X.tail, X.warmed, ?_, ?_, ?_⟩
  · have h := X.room
    have hU : ((T.setVm s.vm).setFrames (.invoking m args :: below)).localsInUse = s.localsInUse := by
      rw [State.localsInUse_invoking hF (meth := meth) (c := c) X.method X.code, State.localsInUse_invoking X.frames X.method X.code]
    simp only [State.hasRoom, Bool.and_eq_true, decide_eq_true_eq] at h ⊢
    obtain ⟨⟨⟨⟨h1, h2, h3, h4, h5, h6⟩, h7⟩, h8⟩, h9⟩ := h
    rw [X.frames, List.length_cons] at h2 h3
    have q1 := X.heapSize
    have q2 := X.used
    simp only [hF, hU, List.length_cons, State.stackLimits_setFrames, State.stackBytes_setFrames, hl9, hb9]
    refine ⟨⟨⟨⟨by omega, by omega, by omega, by omega, by omega, h6⟩, ?_⟩, ?_⟩, X.book⟩
    · show T.heap.size + R'.cells ≤ e.platform.maxCells
      omega
    · show T.slotsUsed + R'.slots ≤ e.platform.maxSlots
      omega
  · rw [State.stackLimits_setFrames]; rfl
  · rw [State.stackBytes_setFrames]; rfl
  · refine ⟨?_, Nat.le_refl _, Nat.le_refl _, ?_, ?_, fun a c9 h9 => ⟨c9, h9, rfl, rfl, fun _ _ => rfl⟩⟩
    · obtain ⟨t, ht, -⟩ := State.frames_cons hr
      show T.setVm s.vm = { ((T.setVm s.vm).setFrames (.invoking m args :: below)).setFrames (T.setVm s.vm).frames with heap := T.heap, slotsUsed := T.slotsUsed }
      rw [State.setFrames_setFrames, State.setFrames_self ht]
      rfl
    · show T.slotsUsed = T.slotsUsed + ((T.heap.toList.drop T.heap.size).map (·.slots.size)).sum
      rw [List.drop_eq_nil_of_le (Nat.le_of_eq Array.length_toList)]
      rfl
    · show ((T.heap.toList.drop T.heap.size).map (·.slots.size)).sum ≤ 0
      rw [List.drop_eq_nil_of_le (Nat.le_of_eq Array.length_toList)]
      exact Nat.le_refl _
/-- 'throw new E()': new; dup; invokespecial; athrow -/
theorem vx_throw0 {cc : ByteArray} {pc : Nat} (hexec : p.tables.exec = Jvm.exec) (hb : c.code = cc) (hl : l.stackTraces = false) {own cls : String} {names : List String} {ik ic mc ms : Nat} {A : Nat → Prop}
    (hown : s.vm.findClass own = some m.cls) (hcls : Bundle.fit cls = true) (hnames : ∀ n ∈ names, Bundle.fit n = true)
    (hk : (Cond.classLink own ik cls).before args s = true) (hini : (Cond.initialized cls).before args s = true) (hat : ∀ w ∈ vx_at0 own ic cls names, w.before args s = true)
    (hgood : ∀ w ∈ Cond.classLink own ik cls :: Cond.initialized cls :: vx_at0 own ic cls names, vx_ot w = true)
    (hU : vx_Zq Bundle.tN "UNASSIGNED_STACK" Bundle.steD A s s.heap) (hN : vx_Zq Bundle.tN "SUPPRESSED_SENTINEL" Bundle.listD A s s.heap) (hS : va_S A s.heap H locs) (hsize : ls.size = c.maxLocals)
    (d0 : decode cc pc = .ok (.new ik, 3)) (d3 : decode cc (pc + 3) = .ok (.dup, 1)) (d4 : decode cc (pc + 4) = .ok (.invokespecial ic, 3)) (d7 : decode cc (pc + 7) = .ok (.athrow, 1))
    (hout : ∀ x ∈ c.exceptionTable.toList, covers x (pc + 7) = false)
    (hRframes : names.length + 3 < R.frames) (hRlocals : (rest.map fun v => v.category).sum + (13 * (names.length + 1) + 42) ≤ R.locals) (hRcells : cells + 1 ≤ R.cells) (hRslots : slots + 6 ≤ R.slots) (hlocks : meth.locks = false)
    (hx : ∀ t : State, s.vm.Alike t.vm → H.size ≤ t.heap.size → (∀ q : Nat, q < H.size → t.heap[q]? = H[q]?) → XC cls s t)
    (hf : ∀ z ∈ locs, free z.base) (hc : cells + 1 ≤ mc) (hs : slots + 6 ≤ ms) :
    W p l e R s m args below meth c H locs cells slots (vx_MQ below Qc XC args s mc ms free) (F0 m pc ls rest) := by
  intro T hT X
  have htr : e.platform.stackTraces = false := (show e.platform.stackTraces = l.stackTraces by rw [X.admits.platform]).trans hl
  have Y := vx_rebase X (R' := { frames := R.frames, locals := R.locals, cells := 1, slots := 6 }) (Nat.le_refl _) (Nat.le_refl _) hRcells hRslots
  obtain ⟨s', hA⟩ : ∃ z, z = (T.setVm s.vm).setFrames (.invoking m args :: below) := ⟨_, rfl⟩
  rw [← hA] at Y
  have hvm : s'.vm = s.vm := by rw [hA]; rfl
  have hhp : s'.heap = H := by rw [hA]; exact hT
  have hW0 : s.WarmedH s'.vm := by rw [hvm]; exact State.WarmedH.refl s
  have hat' : ∀ w ∈ vx_at0 own ic cls names, w.before args s' = true := fun w hw => vx_ot_at hW0 hvm.symm (hgood w (List.mem_cons_of_mem _ (List.mem_cons_of_mem _ hw))) (hat w hw)
  have hk' : (Cond.classLink own ik cls).before args s' = true := vx_ot_at hW0 hvm.symm (hgood _ List.mem_cons_self) hk
  have hini' : (Cond.initialized cls).before args s' = true := vx_ot_at hW0 hvm.symm (hgood _ (List.mem_cons_of_mem _ List.mem_cons_self)) hini
  have hU' : vx_Zq Bundle.tN "UNASSIGNED_STACK" Bundle.steD A s' s'.heap := by rw [hhp]; exact vx_Zq.moved hW0.alike (hU.kept hS.2.1)
  have hN' : vx_Zq Bundle.tN "SUPPRESSED_SENTINEL" Bundle.listD A s' s'.heap := by rw [hhp]; exact vx_Zq.moved hW0.alike (hN.kept hS.2.1)
  have h : ∀ w ∈ Bundle.ownAtoms0 own ic cls names, w.before args s' = true := vx_own hat' (vx_isRefq hU'.1) (vx_isRefq hN'.1) hU'.2.word hN'.2.word
  have hown' : s'.vm.findClass own = some m.cls := by rw [hvm]; exact hown
  have hins : (Cond.instantiable cls 6).before args s' = true := h _ (by simp [Bundle.ownAtoms0])
  obtain ⟨vm₁, cX, kX, hfX, hkX, -, -, X₁, st1⟩ := Y.newCold hexec (own := own) (C := cls) (index := ik) (n := 6) hown' hk' hins hini'
    (g := F0 m pc ls rest) rfl (by rw [hb]; exact d0) (Nat.le_refl _) (Nat.le_refl _)
  generalize hT1 : (T.setVm vm₁).pushCell { cls := cX, slots := kX.instanceTypes.map defaultValue, vm := .none } = T1 at X₁ st1
  have hcat : (Value.ref T.heap.size).category = 1 := rfl
  have hcellA : T1.heap[T.heap.size]? = some (freshCell cX kX) := by rw [← hT1]; exact State.heap_pushCell_size _ _
  have d3' : decode c.code (pc + 3) = .ok (.dup, 1) := by rw [hb]; exact d3
  obtain ⟨U, hsteps, hrun, hend, hW, hsame, ce, hce, hO⟩ := X₁.ctorThrow0 hexec htr (own := own) (cls := cls) (names := names) (ic := ic) hown' hcls hnames h (fun x hx => nomatch hx) hfX hkX hcellA (by rw [hhp, hT]; exact Nat.le_refl _)
    (g := { method := m, pc := pc + 4, locals := ls, stack := .ref T.heap.size :: .ref T.heap.size :: rest, locked := none }) rfl hsize rfl rfl (rest := rest) rfl
    (by rw [hb]; exact d4) (by rw [hb]; exact d7) hout hRframes (by simp only [List.map_cons, List.sum_cons, hcat]; omega) hlocks
  obtain ⟨f1, f2⟩ := vx_frame hsame
  rw [hhp] at f1 f2
  have hWs : s.WarmedH U.vm := State.WarmedH.trans hW0 hW
  have hcl : s.vm.findClass cls = some ce.cls := by
    have h9 := hO.cls
    rw [hvm] at h9
    exact h9
  have hall : s.sameButNew ({ U with vm := s.vm } : State) locs mc ms := by
    subst hA
    obtain ⟨e1, e2⟩ := hsame
    rw [State.setFrames_setFrames] at e1
    have h2 : (T.setVm s.vm).sameButNew ({ U with vm := s.vm } : State) [] (0 + 1) (0 + 6) := ⟨e1, e2⟩
    have h3 := X.same.trans h2
    rw [List.append_nil] at h3
    exact h3.mono hc hs
  refine ⟨U, ?_, .threw T.heap.size, hrun, hend, Or.inr ⟨T.heap.size, rfl, cls, ce, locs, hx U hWs.alike f1 (fun q hq => f2 q hq (fun z hz => nomatch hz)), hce, hO.vm, hcl, hWs, hall, hf⟩⟩
  refine st1 _ ?_
  show Steps p.tables e below (T1.setTop { method := m, pc := pc + 3, locals := ls, stack := .ref T.heap.size :: rest, locked := none }) _
  jvm_step X₁.here [X₁.here.top, hexec, d3', Value.category]
  exact hsteps
/-- 'throw new E("text")': new; dup; ldc; invokespecial; athrow -/
theorem vx_throwS {cc : ByteArray} {pc : Nat} (hexec : p.tables.exec = Jvm.exec) (hb : c.code = cc) (hl : l.stackTraces = false) {own cls text : String} {names : List String} {ik is ic mc ms sa : Nat} {A : Nat → Prop}
    (hown : s.vm.findClass own = some m.cls) (hcls : Bundle.fit cls = true) (hnames : ∀ n ∈ names, Bundle.fit n = true)
    (hk : (Cond.classLink own ik cls).before args s = true) (hini : (Cond.initialized cls).before args s = true) (hstr : vk_R own is text sa s) (hat : ∀ w ∈ vx_atS own ic cls names, w.before args s = true)
    (hgood : ∀ w ∈ Cond.classLink own ik cls :: Cond.initialized cls :: vx_atS own ic cls names, vx_ot w = true)
    (hU : vx_Zq Bundle.tN "UNASSIGNED_STACK" Bundle.steD A s s.heap) (hN : vx_Zq Bundle.tN "SUPPRESSED_SENTINEL" Bundle.listD A s s.heap) (hS : va_S A s.heap H locs) (hsize : ls.size = c.maxLocals)
    (d0 : decode cc pc = .ok (.new ik, 3)) (d3 : decode cc (pc + 3) = .ok (.dup, 1)) (d4 : decode cc (pc + 4) = .ok (.ldc is, 2)) (d6 : decode cc (pc + 6) = .ok (.invokespecial ic, 3)) (d9 : decode cc (pc + 9) = .ok (.athrow, 1))
    (hout : ∀ x ∈ c.exceptionTable.toList, covers x (pc + 9) = false)
    (hRframes : names.length + 3 < R.frames) (hRlocals : (rest.map fun v => v.category).sum + (13 * (names.length + 1) + 43) ≤ R.locals) (hRcells : cells + 1 ≤ R.cells) (hRslots : slots + 6 ≤ R.slots) (hlocks : meth.locks = false)
    (hx : ∀ t : State, s.vm.Alike t.vm → H.size ≤ t.heap.size → (∀ q : Nat, q < H.size → t.heap[q]? = H[q]?) → XC cls s t)
    (hf : ∀ z ∈ locs, free z.base) (hc : cells + 1 ≤ mc) (hs : slots + 6 ≤ ms) :
    W p l e R s m args below meth c H locs cells slots (vx_MQ below Qc XC args s mc ms free) (F0 m pc ls rest) := by
  intro T hT X
  have htr : e.platform.stackTraces = false := (show e.platform.stackTraces = l.stackTraces by rw [X.admits.platform]).trans hl
  have Y := vx_rebase X (R' := { frames := R.frames, locals := R.locals, cells := 1, slots := 6 }) (Nat.le_refl _) (Nat.le_refl _) hRcells hRslots
  obtain ⟨s', hA⟩ : ∃ z, z = (T.setVm s.vm).setFrames (.invoking m args :: below) := ⟨_, rfl⟩
  rw [← hA] at Y
  have hvm : s'.vm = s.vm := by rw [hA]; rfl
  have hhp : s'.heap = H := by rw [hA]; exact hT
  have hW0 : s.WarmedH s'.vm := by rw [hvm]; exact State.WarmedH.refl s
  have hat' : ∀ w ∈ vx_atS own ic cls names, w.before args s' = true := fun w hw => vx_ot_at hW0 hvm.symm (hgood w (List.mem_cons_of_mem _ (List.mem_cons_of_mem _ hw))) (hat w hw)
  have hk' : (Cond.classLink own ik cls).before args s' = true := vx_ot_at hW0 hvm.symm (hgood _ List.mem_cons_self) hk
  have hini' : (Cond.initialized cls).before args s' = true := vx_ot_at hW0 hvm.symm (hgood _ (List.mem_cons_of_mem _ List.mem_cons_self)) hini
  have hU' : vx_Zq Bundle.tN "UNASSIGNED_STACK" Bundle.steD A s' s'.heap := by rw [hhp]; exact vx_Zq.moved hW0.alike (hU.kept hS.2.1)
  have hN' : vx_Zq Bundle.tN "SUPPRESSED_SENTINEL" Bundle.listD A s' s'.heap := by rw [hhp]; exact vx_Zq.moved hW0.alike (hN.kept hS.2.1)
  have h : ∀ w ∈ Bundle.ownAtoms own ic cls names, w.before args s' = true := vx_own hat' (vx_isRefq hU'.1) (vx_isRefq hN'.1) hU'.2.word hN'.2.word
  have hown' : s'.vm.findClass own = some m.cls := by rw [hvm]; exact hown
  have hins : (Cond.instantiable cls 6).before args s' = true := h _ (by simp [Bundle.ownAtoms])
  obtain ⟨vm₁, cX, kX, hfX, hkX, -, -, X₁, st1⟩ := Y.newCold hexec (own := own) (C := cls) (index := ik) (n := 6) hown' hk' hins hini'
    (g := F0 m pc ls rest) rfl (by rw [hb]; exact d0) (Nat.le_refl _) (Nat.le_refl _)
  generalize hT1 : (T.setVm vm₁).pushCell { cls := cX, slots := kX.instanceTypes.map defaultValue, vm := .none } = T1 at X₁ st1
  have hcat : (Value.ref T.heap.size).category = 1 := rfl
  have hcellA : T1.heap[T.heap.size]? = some (freshCell cX kX) := by rw [← hT1]; exact State.heap_pushCell_size _ _
  have d3' : decode c.code (pc + 3) = .ok (.dup, 1) := by rw [hb]; exact d3
  have d4' : decode c.code (pc + 4) = .ok (.ldc is, 2) := by rw [hb]; exact d4
  have hstr' : vk_R own is text sa s' := vk_R.warm hW0 hstr
  obtain ⟨U, hsteps, hrun, hend, hW, hsame, ce, hce, hO⟩ := X₁.ctorThrowS hexec htr (own := own) (cls := cls) (names := names) (ic := ic) hown' hcls hnames h (fun x hx => nomatch hx) hfX hkX hcellA (by rw [hhp, hT]; exact Nat.le_refl _) (msg := .ref sa) rfl
    (g := { method := m, pc := pc + 6, locals := ls, stack := .ref sa :: .ref T.heap.size :: .ref T.heap.size :: rest, locked := none }) rfl hsize rfl rfl (rest := rest) rfl
    (by rw [hb]; exact d6) (by rw [hb]; exact d9) hout hRframes (by simp only [List.map_cons, List.sum_cons, hcat]; omega) hlocks
  obtain ⟨f1, f2⟩ := vx_frame hsame
  rw [hhp] at f1 f2
  have hWs : s.WarmedH U.vm := State.WarmedH.trans hW0 hW
  have hcl : s.vm.findClass cls = some ce.cls := by
    have h9 := hO.cls
    rw [hvm] at h9
    exact h9
  have hall : s.sameButNew ({ U with vm := s.vm } : State) locs mc ms := by
    subst hA
    obtain ⟨e1, e2⟩ := hsame
    rw [State.setFrames_setFrames] at e1
    have h2 : (T.setVm s.vm).sameButNew ({ U with vm := s.vm } : State) [] (0 + 1) (0 + 6) := ⟨e1, e2⟩
    have h3 := X.same.trans h2
    rw [List.append_nil] at h3
    exact h3.mono hc hs
  refine ⟨U, ?_, .threw T.heap.size, hrun, hend, Or.inr ⟨T.heap.size, rfl, cls, ce, locs, hx U hWs.alike f1 (fun q hq => f2 q hq (fun z hz => nomatch hz)), hce, hO.vm, hcl, hWs, hall, hf⟩⟩
  refine st1 _ ?_
  show Steps p.tables e below (T1.setTop { method := m, pc := pc + 3, locals := ls, stack := .ref T.heap.size :: rest, locked := none }) _
  jvm_step X₁.here [X₁.here.top, hexec, d3', Value.category]
  exact X₁.ldcString hexec (own := own) (text := text) (index := is) (a := sa) hown' hstr'.1 hstr'.2
    (g := { method := m, pc := pc + 4, locals := ls, stack := .ref T.heap.size :: .ref T.heap.size :: rest, locked := none }) rfl d4' _ hsteps
/-- 'throw new E("text")', the text by a wide index -/
theorem vx_throwSW {cc : ByteArray} {pc : Nat} (hexec : p.tables.exec = Jvm.exec) (hb : c.code = cc) (hl : l.stackTraces = false) {own cls text : String} {names : List String} {ik is ic mc ms sa : Nat} {A : Nat → Prop}
    (hown : s.vm.findClass own = some m.cls) (hcls : Bundle.fit cls = true) (hnames : ∀ n ∈ names, Bundle.fit n = true)
    (hk : (Cond.classLink own ik cls).before args s = true) (hini : (Cond.initialized cls).before args s = true) (hstr : vk_R own is text sa s) (hat : ∀ w ∈ vx_atS own ic cls names, w.before args s = true)
    (hgood : ∀ w ∈ Cond.classLink own ik cls :: Cond.initialized cls :: vx_atS own ic cls names, vx_ot w = true)
    (hU : vx_Zq Bundle.tN "UNASSIGNED_STACK" Bundle.steD A s s.heap) (hN : vx_Zq Bundle.tN "SUPPRESSED_SENTINEL" Bundle.listD A s s.heap) (hS : va_S A s.heap H locs) (hsize : ls.size = c.maxLocals)
    (d0 : decode cc pc = .ok (.new ik, 3)) (d3 : decode cc (pc + 3) = .ok (.dup, 1)) (d4 : decode cc (pc + 4) = .ok (.ldc_w is, 3)) (d7 : decode cc (pc + 7) = .ok (.invokespecial ic, 3)) (d10 : decode cc (pc + 10) = .ok (.athrow, 1))
    (hout : ∀ x ∈ c.exceptionTable.toList, covers x (pc + 10) = false)
    (hRframes : names.length + 3 < R.frames) (hRlocals : (rest.map fun v => v.category).sum + (13 * (names.length + 1) + 43) ≤ R.locals) (hRcells : cells + 1 ≤ R.cells) (hRslots : slots + 6 ≤ R.slots) (hlocks : meth.locks = false)
    (hx : ∀ t : State, s.vm.Alike t.vm → H.size ≤ t.heap.size → (∀ q : Nat, q < H.size → t.heap[q]? = H[q]?) → XC cls s t)
    (hf : ∀ z ∈ locs, free z.base) (hc : cells + 1 ≤ mc) (hs : slots + 6 ≤ ms) :
    W p l e R s m args below meth c H locs cells slots (vx_MQ below Qc XC args s mc ms free) (F0 m pc ls rest) := by
  intro T hT X
  have htr : e.platform.stackTraces = false := (show e.platform.stackTraces = l.stackTraces by rw [X.admits.platform]).trans hl
  have Y := vx_rebase X (R' := { frames := R.frames, locals := R.locals, cells := 1, slots := 6 }) (Nat.le_refl _) (Nat.le_refl _) hRcells hRslots
  obtain ⟨s', hA⟩ : ∃ z, z = (T.setVm s.vm).setFrames (.invoking m args :: below) := ⟨_, rfl⟩
  rw [← hA] at Y
  have hvm : s'.vm = s.vm := by rw [hA]; rfl
  have hhp : s'.heap = H := by rw [hA]; exact hT
  have hW0 : s.WarmedH s'.vm := by rw [hvm]; exact State.WarmedH.refl s
  have hat' : ∀ w ∈ vx_atS own ic cls names, w.before args s' = true := fun w hw => vx_ot_at hW0 hvm.symm (hgood w (List.mem_cons_of_mem _ (List.mem_cons_of_mem _ hw))) (hat w hw)
  have hk' : (Cond.classLink own ik cls).before args s' = true := vx_ot_at hW0 hvm.symm (hgood _ List.mem_cons_self) hk
  have hini' : (Cond.initialized cls).before args s' = true := vx_ot_at hW0 hvm.symm (hgood _ (List.mem_cons_of_mem _ List.mem_cons_self)) hini
  have hU' : vx_Zq Bundle.tN "UNASSIGNED_STACK" Bundle.steD A s' s'.heap := by rw [hhp]; exact vx_Zq.moved hW0.alike (hU.kept hS.2.1)
  have hN' : vx_Zq Bundle.tN "SUPPRESSED_SENTINEL" Bundle.listD A s' s'.heap := by rw [hhp]; exact vx_Zq.moved hW0.alike (hN.kept hS.2.1)
  have h : ∀ w ∈ Bundle.ownAtoms own ic cls names, w.before args s' = true := vx_own hat' (vx_isRefq hU'.1) (vx_isRefq hN'.1) hU'.2.word hN'.2.word
  have hown' : s'.vm.findClass own = some m.cls := by rw [hvm]; exact hown
  have hins : (Cond.instantiable cls 6).before args s' = true := h _ (by simp [Bundle.ownAtoms])
  obtain ⟨vm₁, cX, kX, hfX, hkX, -, -, X₁, st1⟩ := Y.newCold hexec (own := own) (C := cls) (index := ik) (n := 6) hown' hk' hins hini'
    (g := F0 m pc ls rest) rfl (by rw [hb]; exact d0) (Nat.le_refl _) (Nat.le_refl _)
  generalize hT1 : (T.setVm vm₁).pushCell { cls := cX, slots := kX.instanceTypes.map defaultValue, vm := .none } = T1 at X₁ st1
  have hcat : (Value.ref T.heap.size).category = 1 := rfl
  have hcellA : T1.heap[T.heap.size]? = some (freshCell cX kX) := by rw [← hT1]; exact State.heap_pushCell_size _ _
  have d3' : decode c.code (pc + 3) = .ok (.dup, 1) := by rw [hb]; exact d3
  have d4' : decode c.code (pc + 4) = .ok (.ldc_w is, 3) := by rw [hb]; exact d4
  have hstr' : vk_R own is text sa s' := vk_R.warm hW0 hstr
  obtain ⟨U, hsteps, hrun, hend, hW, hsame, ce, hce, hO⟩ := X₁.ctorThrowS hexec htr (own := own) (cls := cls) (names := names) (ic := ic) hown' hcls hnames h (fun x hx => nomatch hx) hfX hkX hcellA (by rw [hhp, hT]; exact Nat.le_refl _) (msg := .ref sa) rfl
    (g := { method := m, pc := pc + 7, locals := ls, stack := .ref sa :: .ref T.heap.size :: .ref T.heap.size :: rest, locked := none }) rfl hsize rfl rfl (rest := rest) rfl
    (by rw [hb]; exact d7) (by rw [hb]; exact d10) hout hRframes (by simp only [List.map_cons, List.sum_cons, hcat]; omega) hlocks
  obtain ⟨f1, f2⟩ := vx_frame hsame
  rw [hhp] at f1 f2
  have hWs : s.WarmedH U.vm := State.WarmedH.trans hW0 hW
  have hcl : s.vm.findClass cls = some ce.cls := by
    have h9 := hO.cls
    rw [hvm] at h9
    exact h9
  have hall : s.sameButNew ({ U with vm := s.vm } : State) locs mc ms := by
    subst hA
    obtain ⟨e1, e2⟩ := hsame
    rw [State.setFrames_setFrames] at e1
    have h2 : (T.setVm s.vm).sameButNew ({ U with vm := s.vm } : State) [] (0 + 1) (0 + 6) := ⟨e1, e2⟩
    have h3 := X.same.trans h2
    rw [List.append_nil] at h3
    exact h3.mono hc hs
  refine ⟨U, ?_, .threw T.heap.size, hrun, hend, Or.inr ⟨T.heap.size, rfl, cls, ce, locs, hx U hWs.alike f1 (fun q hq => f2 q hq (fun z hz => nomatch hz)), hce, hO.vm, hcl, hWs, hall, hf⟩⟩
  refine st1 _ ?_
  show Steps p.tables e below (T1.setTop { method := m, pc := pc + 3, locals := ls, stack := .ref T.heap.size :: rest, locked := none }) _
  jvm_step X₁.here [X₁.here.top, hexec, d3', Value.category]
  exact X₁.ldcStringW hexec (own := own) (text := text) (index := is) (a := sa) hown' hstr'.1 hstr'.2
    (g := { method := m, pc := pc + 4, locals := ls, stack := .ref T.heap.size :: .ref T.heap.size :: rest, locked := none }) rfl d4' _ hsteps
end Ends
section Bodies
variable {l : Launch}
theorem vx_ofW {y : MethodName} {ws ws' : List Cond} {rm : Room} {Pc : Array Value → State → Prop} {Qc : Array Value → State → Outcome → State → Prop} {XC : String → State → State → Prop} {mc ms : Nat} {free : Addr → Prop} {cc : ByteArray} {maxL : Nat} {ret : Option FieldType}
    (hy : plainName y.cls = true) (hw : ws = Cond.code y cc maxL ret :: ws')
    (body : ∀ p e s m args below meth c s₁, BodyLoose p l y (headSpec ws rm) cc maxL ret e s m args below meth c s₁ → c.maxLocals = maxL → (∀ x ∈ c.exceptionTable.toList, False) → Pc args s →
      W p l e (headSpec ws rm).room s m args below meth c s.heap [] 0 0 (vx_MQ below Qc XC args s mc ms free) (entryFrame m args maxL)) : vx_Met l y ws rm Pc Qc XC mc ms free := by
  refine MetFree.of_bodyS (code := cc) (maxLocals := maxL) (ret := ret) hy ?_ ?_
  · intro args s m h hn
    obtain ⟨meth, c, h1, h2, h3, h4, h5, h6, -, -⟩ := Cond.code_spec hn (atoms_spec (ws := ws) h _ (by rw [hw]; exact List.mem_cons_self))
    exact ⟨meth, c, h1, h2, h3, h4, h5, h6⟩
  · intro p e s m args below meth c s₁ B hml hP _
    have hh0 : s₁.heap = s.heap := by rw [B.state]; rfl
    have ht : ∀ x ∈ c.exceptionTable.toList, False := by
      obtain ⟨meth9, c9, h1, h2, -, -, -, -, h7, -⟩ := Cond.code_spec B.named (atoms_spec (ws := ws) B.pre _ (by rw [hw]; exact List.mem_cons_self))
      cases Option.some.inj (h1.symm.trans B.method)
      cases Option.some.inj (h2.symm.trans (Stand.of_body B).code)
      intro x hx
      rw [Array.isEmpty_iff.mp h7] at hx
      cases hx
    obtain ⟨t, a1, o, b1, b2, b3⟩ := body p e s m args below meth c s₁ B hml ht hP s₁ hh0 (Stand.of_body B)
    exact ⟨t, o, a1, b1, b2, b3⟩
/-- the table of a body with handlers -/
theorem vx_table {p : Program} {x y : MethodName} {S : Spec} {cc bytes : ByteArray} {maxL maxL' : Nat} {ret ret' : Option FieldType} {e : Env} {s s₁ : State} {m : MethodId} {args : Array Value} {below : List Frame} {meth : Method} {c : Code} {hh : List (Nat × Nat × Nat × Nat)}
    (B : BodyLoose p l y S cc maxL ret e s m args below meth c s₁) (h : (Cond.codeWith y bytes maxL' ret' hh).before args s = true) : c.exceptionTable.toList = tableOf hh := by
  obtain ⟨m9, meth9, c9, hn9, h1, h2, -, -, h6, -⟩ := Cond.codeWith_spec h
  cases Option.some.inj (hn9.symm.trans B.named)
  cases Option.some.inj (h1.symm.trans B.method)
  cases Option.some.inj (h2.symm.trans (Stand.of_body B).code)
  rw [← h6, table_eq]
end Bodies
end VXA
/-! ===== END ===== -/
/-! ===== BEGIN a static call of a method with an exception table ===== -/
section VXS
variable {p : Program} {l : Launch} {e : Env} {R : Room} {s : State} {m : MethodId} {args : Array Value} {below : List Frame} {meth : Method} {c : Code} {T : State} {H : Heap} {locs : List Loc} {cells slots : Nat}
abbrev vx_CSW (R : Room) (s : State) (args : Array Value) (own : String) (index : Nat) (y : MethodName) (bytes : ByteArray) (maxL : Nat) (ret : Option FieldType) (hh : List (Nat × Nat × Nat × Nat)) (ws : List Cond) (rm : Room) (mc ms n : Nat) : Prop :=
  (rm.cells = mc ∧ rm.slots = ms ∧ rm.frames + 1 ≤ R.frames ∧ 8 + (maxL + 11) + rm.locals ≤ R.locals ∧ (∀ w ∈ ws, ∀ (a' : Array Value) (U : State), s.WarmedH U.vm → w.before a' U = true) ∧ Cond.codeWith y bytes maxL ret hh ∈ ws) ∧
  (Cond.codeWith y bytes maxL ret hh).before args s = true ∧ (Cond.initialized y.cls).before args s = true ∧ (y.cls ≠ "java/lang/invoke/MethodHandle" ∧ y.cls ≠ "java/lang/invoke/VarHandle") ∧
  (∀ sig, parseMethodDescriptor y.desc = some sig → n = sig.parameters.length) ∧ (Cond.methodLink own index y).before args s = true ∧ (Cond.static y).before args s = true
theorem vx_cwSW {own : String} {index maxL mc ms : Nat} {y : MethodName} {bytes : ByteArray} {ret : Option FieldType} {hh : List (Nat × Nat × Nat × Nat)} {Ts ws ws' : List Cond} {rm : Room} (n : Nat) (ht : ∀ w ∈ Ts, w.before args s = true) (hT : GoodIn Ts (va_wsS own index y ws)) (hw : ws = Cond.codeWith y bytes maxL ret hh :: ws') (hrc : rm.cells = mc) (hrs : rm.slots = ms)
    (hd : y.cls ≠ "java/lang/invoke/MethodHandle" ∧ y.cls ≠ "java/lang/invoke/VarHandle" ∧ (parseMethodDescriptor y.desc).map (fun d => d.parameters.length) = some n) (hR : rm.frames + 1 ≤ R.frames ∧ 8 + (maxL + 11) + rm.locals ≤ R.locals) :
    vx_CSW R s args own index y bytes maxL ret hh ws rm mc ms n := by
  have ok : ∀ w ∈ va_wsS own index y ws, w.before args s = true := fun w h => ht w (hT w h).1
  have hG : GoodIn Ts ws := fun w h => hT w (by unfold va_wsS; exact List.mem_append_right _ h)
  have hc : Cond.codeWith y bytes maxL ret hh ∈ ws := by rw [hw]; exact List.mem_cons_self
  refine ⟨⟨hrc, hrs, hR.1, hR.2, pay_in ht hG, hc⟩, ht _ (hG _ hc).1, ok _ (by simp [va_wsS]), ⟨hd.1, hd.2.1⟩, fun sig h => ?_, ok _ (by simp [va_wsS]), ok _ (by simp [va_wsS])⟩
  have h2 := hd.2.2
  rw [h] at h2
  exact (Option.some.inj h2).symm
theorem vx_callSW (X : Stand p l e R s m args below meth c T locs cells slots) (hexec : p.tables.exec = Jvm.exec) {own : String} {index : Nat} {y : MethodName} {bytes : ByteArray} {maxL : Nat} {ret : Option FieldType} {hh : List (Nat × Nat × Nat × Nat)}
    (hown : s.vm.findClass own = some m.cls) (hlink : (Cond.methodLink own index y).before args s = true) (hstat : (Cond.static y).before args s = true) (hinit : (Cond.initialized y.cls).before args s = true)
    (hcode : (Cond.codeWith y bytes maxL ret hh).before args s = true) (hy : y.cls ≠ "java/lang/invoke/MethodHandle" ∧ y.cls ≠ "java/lang/invoke/VarHandle")
    {W9 : Nat} {Pre : Pt → Array Value → Prop} {Post : Pt → Array Value → Option Value → Pt → Prop} (hK : Back l R p e below s args y 3 W9 Pre Post)
    {g : JFrame} (hg : g.method = m) (hsize : g.locals.size = c.maxLocals) {argsL rest : List Value} (hlen : ∀ sig, parseMethodDescriptor y.desc = some sig → argsL.length = sig.parameters.length)
    (hstack : g.stack = argsL.reverse ++ rest) (hW : 2 * g.monitorRoom + (rest.map fun v => v.category).sum ≤ W9) (hdg : decode c.code g.pc = .ok (.invokestatic index, 3))
    (hpre : ∀ vm₁, s.WarmedH vm₁ → Pre ⟨T.setVm vm₁, locs, cells, slots⟩ argsL.toArray) :
    ∃ (v : Option Value) (vm₁ : Vm) (B : Pt), s.WarmedH vm₁ ∧ Stand p l e R s m args below meth c B.U B.locs B.cells B.slots ∧ Post ⟨T.setVm vm₁, locs, cells, slots⟩ argsL.toArray v B ∧
      ∀ target, Steps p.tables e below (B.U.setTop { g with pc := g.pc + 3, stack := v.toList ++ rest }) target → Steps p.tables e below (T.setTop g) target := by
  obtain ⟨mk, methM, cM, hnamed, hmethM, -, -, -, -, -, -, hsigM⟩ := Cond.codeWith_spec hcode
  have hstatic : methM.isStatic = true := Cond.static_spec hnamed hmethM hstat
  obtain ⟨kP, hkP, -⟩ := className_of_methodNamed hnamed
  have hinitP : kP.init = .initialized := Cond.initialized_spec (findClass_of_methodNamed hnamed) hkP hinit
  obtain ⟨vm₁, X₁, hstep₁⟩ := X.invokestatic hexec hown hlink hnamed hmethM hstatic hkP hinitP hy (g := g) hg (argsL := argsL) (rest := rest) (hlen _ hsigM) hstack hdg
  obtain ⟨v, B, X', hpost, hsteps⟩ := hK m meth c ⟨T.setVm vm₁, locs, cells, slots⟩ { g with stack := rest } (.invokestatic index) mk argsL.toArray X₁ hg hsize hdg hW (X₁.named hnamed) (hpre vm₁ X₁.warmed)
  exact ⟨v, vm₁, B, X₁.warmed, X', hpost, fun target h => hstep₁ _ fun acts => by rw [doInvoke_state]; exact hsteps.trans h⟩
theorem vx_runSW {y : MethodName} {bytes cc : ByteArray} {maxL nL mc ms n index : Nat} {ret : Option FieldType} {hh : List (Nat × Nat × Nat × Nat)} {ws : List Cond} {rm : Room} {Pc : Array Value → State → Prop} {Qc : Array Value → State → Outcome → State → Prop} {free : Addr → Prop} {Ts : List Cond} {own : String} {As rest : List Value} {g : JFrame}
    (S : CallFix p m c cc nL s args Ts own) (hM : Met l y ws rm Pc Qc mc ms free) (cw : vx_CSW R s args own index y bytes maxL ret hh ws rm mc ms n) (hp : PreS s H Pc As)
    (hg : g.method = m) (hn : As.length = n) (hsize : g.locals.size = nL) (hstack : g.stack = As.reverse ++ rest) (hW : 2 * g.monitorRoom + (rest.map fun v => v.category).sum ≤ 8) (hdg : decode cc g.pc = .ok (.invokestatic index, 3)) (hf : cells + mc ≤ R.cells ∧ slots + ms ≤ R.slots) :
    va_Run p l e R s m args below meth c H locs cells slots mc ms g rest (Qc As.toArray) (free) := by
  obtain ⟨⟨hrc, hrs, hfr, hlo, hws, hcw⟩, hcode, hini, hy, hlen, hl, hstt⟩ := cw
  have hK : Back l R p e below s args y 3 8 (PreOf R mc ms Pc) (PostOf Qc mc ms free) := va_backW (hh := hh) (bytes := bytes) (maxL := maxL) (ret := ret) hM hp.1 hrc hrs hfr hlo hws hcw (fun a' U hW => word_at hW (Or.inl (by first | rfl | simp [Cond.onTables, Cond.keeps, Cond.steady])) hini)
  obtain ⟨hx, hb, hml, ho, -⟩ := S
  intro T hT X
  obtain ⟨v, vm₁, ⟨U', l2, c2, s2⟩, hW₁, X', ⟨g', mk, t, L, e1, e2, hq, h1, hL, h2, h3⟩, st⟩ := vx_callSW X hx (hh := hh) (bytes := bytes) (maxL := maxL) (ret := ret) ho hl hstt hini hcode hy hK hg (hsize.trans hml.symm) (argsL := As) (rest := rest) (fun sig h => hn.trans (hlen sig h)) hstack hW (by rw [hb]; exact hdg)
    (fun vm₁ hW₁ => ⟨hf.1, hf.2, hp.2 (T.setVm vm₁) hT hW₁⟩)
  dsimp only [Pt.U, Pt.locs, Pt.cells, Pt.slots] at X' e1 e2 h1 h2 h3 st
  subst h1; subst h2; subst h3
  exact ⟨v, (T.setVm vm₁).calling g' mk As.toArray, t, U', L, hT, X', hL, e1, e2, hq, st⟩
/-- not caught here, past rows that name other classes: it goes on to the caller -/
theorem vx_outP {p : Program} {l : Launch} {e : Env} {R : Room} {s : State} {m : MethodId} {args : Array Value} {below : List Frame} {meth : Method} {c : Code} {H : Heap} {locs : List Loc} {cells slots : Nat} {free : Addr → Prop} {ls : Array Slot} {rest : List Value} {Qc : Array Value → State → Outcome → State → Prop} {XC : String → State → State → Prop}
    {pc : Nat} {own E : String} {ce : Cell} {q : Addr} {mc ms : Nat} (hown : s.vm.findClass own = some m.cls) (hlocks : meth.locks = false)
    (hpass : ∀ z ∈ c.exceptionTable.toList, covers z pc = false ∨ (z.catchType ≠ 0 ∧ ∃ nm : String, (Cond.classLink own z.catchType nm).before args s = true ∧ va_Nc E nm s)) (hcell : H[q]? = some ce) (hv : ce.vm = .none) (hcl : s.vm.findClass E = some ce.cls)
    (hx : ∀ t : State, t.heap = H → s.vm.Alike t.vm → XC E s t) (hf : ∀ z ∈ locs, free z.base) (hc : cells ≤ mc) (hs : slots ≤ ms) :
    vx_W p l e R s m args below meth c H locs cells slots (vx_MQ below Qc XC args s mc ms free) (F0 m pc ls rest) q := by
  intro T hT X
  have hpl : e.platform.magicAccessors = ({} : Platform).magicAccessors := by rw [X.admits.platform]
  obtain ⟨vm', hW', X', st⟩ := X.outThrough hlocks q (g := F0 m pc ls rest) rfl rfl rfl (cell := ce) (by rw [hT]; exact hcell) (by rw [hv]; rfl)
    (by obtain ⟨k9, h9, -⟩ := Vm.findClass_spec hcl; exact ⟨k9, h9⟩) (fun z hz => by
      rcases hpass z hz with h | ⟨hz0, nm, hl1, hn1⟩
      · exact Or.inl h
      · obtain ⟨c6, hc6, hcl6⟩ := Cond.classLink_spec hown hl1 e.platform hpl
        obtain ⟨a8, b8, h1, h2, h3⟩ := hn1
        cases Option.some.inj (h1.symm.trans hcl)
        cases Option.some.inj (h2.symm.trans hc6)
        exact Or.inr ⟨hz0, _, hcl6, h3⟩)
  obtain ⟨g₀, hfr⟩ := X'.frames_eq
  have hcell9 : ((T.setVm vm').setFrames (.throwing q :: below)).heap[q]? = some ce := by
    show T.heap[q]? = some ce
    rw [hT]; exact hcell
  have hend : Ended ((T.setVm vm').setFrames (.throwing q :: below)) below (.threw q) := State.frames_setFrames _ (State.cur_lt_of_frames hfr)
  refine ⟨(T.setVm vm').setFrames (.throwing q :: below), ?_, .threw q, X'.here.running, hend, Or.inr ⟨q, rfl, E, ce, locs, hx _ hT (X'.ends _).1.alike, hcell9, hv, hcl, (X'.ends _).1, (X'.ends _).2.mono hc hs, hf⟩⟩
  rw [X.pushThrowing_eq]
  exact st
/-- a thing of a world lies in the heap -/
theorem vx_lt {D : va_G} {cl : List vw_C} {ws : va_W} {H1 : Heap} (h : va_P D cl ws H1) {k : Nat} {q : Nat × va_E} (hk : ws[k]? = some q) : q.1 < H1.size := (h k q hk).lt
end VXS
/-! ===== END ===== -/
/-! ===== BEGIN methods with a table of their own: called by a name, returning or throwing ===== -/
section VXH
/-! vx_backW, vx_callVX, vx_callSX, vx_callVW, vx_runVW, vx_runVX, vx_runSX, vx_ofWH follow the same proofs as their sisters above (Free/Laws.lean, Shelf42/LK1.lean); vx_outP calls Shelf42/NT130.lean (outThrough). -/
section
variable {l : Launch} {R : Room} {p : Program} {e : Env} {below : List Frame} {s : State} {sargs : Array Value} {y : MethodName} {len W9 : Nat}
theorem vx_backW {ws : List Cond} {rm : Room} {Pc : Array Value → State → Prop} {Qc : Array Value → State → Outcome → State → Prop} {XC : String → State → State → Prop} {mc ms : Nat} {free : Addr → Prop} {bytes : ByteArray} {maxL : Nat} {ret : Option FieldType} {hh : List (Nat × Nat × Nat × Nat)}
    (hM : vx_Met l y ws rm Pc Qc XC mc ms free) (hblind : FrameBlind Pc) (hrc : rm.cells = mc) (hrs : rm.slots = ms)
    (hframes : rm.frames + 1 ≤ R.frames) (hlocals : W9 + (maxL + 11) + rm.locals ≤ R.locals)
    (hws : ∀ w ∈ ws, ∀ a' U, s.WarmedH U.vm → w.before a' U = true) (hcode : Cond.codeWith y bytes maxL ret hh ∈ ws) (hinit : ∀ a' U, s.WarmedH U.vm → (Cond.initialized y.cls).before a' U = true) :
    vx_Back l R p e below s sargs y len W9 (PreOf R mc ms Pc) (PostOf Qc mc ms free) (vx_Post XC mc ms free) := by
  intro m meth c A g ig mk a X hg hsize hdg hW hn hp
  have h1 : (headSpec ws rm).pre.before a A.U = true := atoms_intro fun w hw => hws w hw _ _ X.warmed
  have h2 : (Cond.codeWith y bytes maxL ret hh).before a A.U = true := hws _ hcode _ _ X.warmed
  have h3 : (Cond.initialized y.cls).before a A.U = true := hinit _ _ X.warmed
  have h4 : A.cells + (headSpec ws rm).room.cells ≤ R.cells := by rw [show (headSpec ws rm).room.cells = mc from hrc]; exact hp.1
  have h5 : A.slots + (headSpec ws rm).room.slots ≤ R.slots := by rw [show (headSpec ws rm).room.slots = ms from hrs]; exact hp.2.1
  have hPc : Pc a (A.U.calling g mk a) := hblind _ _ _ _ hp.2.2
  obtain ⟨U, Ls, c0, s0⟩ := A
  dsimp only [Pt.U, Pt.locs, Pt.cells, Pt.slots] at h1 h2 h3 h4 h5 X hn hPc ⊢
  obtain ⟨m9, methY, cY, hn9, hmY, hcY, -, hlY, -⟩ := Cond.codeWith_spec h2
  cases Option.some.inj (hn9.symm.trans hn)
  obtain ⟨kY, hkY, -⟩ := className_of_methodNamed hn
  have hinitY : kY.init = .initialized := Cond.initialized_spec (findClass_of_methodNamed hn) hkY h3
  have h : At U g.method c below := by rw [hg]; exact X.here
  have hlocals9 : W9 + (maxL + 11) + (headSpec ws rm).room.locals ≤ R.locals := hlocals
  have happ : (headSpec ws rm).appliesLoose y e.platform (U.calling g mk a) = true :=
    Spec.appliesLoose_calling (g := g) h hdg hn hkY hinitY
      (X.room_calling (g := g) (R' := (headSpec ws rm).room) hsize hmY hcY hframes (by rw [hlY]; omega) h4 h5) h1
  obtain ⟨mid, hmid⟩ := h.above
  have hfr : (U.setTop g).frames = (.java g :: mid) ++ below := by rw [State.frames_setTop' g h.top, hmid]; rfl
  obtain ⟨o, s₂, hsteps, -, hend, hq⟩ := Steps.callFree hM p X.admits X.cas X.clock (acts := []) hfr happ hPc trivial
  have hq' : vx_Q Qc XC mc ms free a (U.calling g mk a) o s₂ := hq
  rw [State.frames_setTop' g h.top] at hend
  obtain ⟨g₀, hg0⟩ := Option.isSome_iff_exists.mp h.top
  obtain ⟨r, hr⟩ := State.topJava?_eq_some.mp hg0
  have hr' : (({ U with heap := s₂.heap, slotsUsed := s₂.slotsUsed } : State).setVm s₂.vm).frames = .java g₀ :: r := hr
  rcases hq' with ⟨hqc, L, hfe, hL⟩ | ⟨q, rfl, E, ce, L, hx, hce, hcv, hcl, hW₂, hsm, hL⟩
  · obtain ⟨⟨v, rfl⟩, hW₂, e2, q2, q3, q4, q5, q6⟩ := id hfe
    have e3 : s₂ = ({ (U.calling g mk a).setFrames s₂.frames with heap := s₂.heap, slotsUsed := s₂.slotsUsed } : State).setVm s₂.vm := by
      have : s₂ = ({ s₂ with vm := (U.calling g mk a).vm } : State).setVm s₂.vm := rfl
      rw [e2] at this
      exact this
    obtain ⟨c₂, i₂, len₂, hc₂, hd₂, hf₂⟩ := hend
    have hW' : U.WarmedH s₂.vm := hW₂
    have hcc : c₂ = c := by
      have h1 : s₂.code? g.method = U.code? g.method := by
        rw [State.code?_eq, State.code?_eq, hW'.alike.method?]
      exact Option.some.inj (hc₂.symm.trans (h1.trans h.code))
    subst hcc
    have hlen : len₂ = len := by rw [hdg] at hd₂; cases hd₂; rfl
    subst hlen
    have hs₂ : s₂ = (({ U with heap := s₂.heap, slotsUsed := s₂.slotsUsed } : State).setVm s₂.vm).setTop { g with pc := g.pc + len₂, stack := v.toList ++ g.stack } := by
      refine e3.trans ?_
      rw [hf₂, State.calling_eq h.top, State.setFrames_setFrames, State.setTop_of_frames _ hr', hr]
      rfl
    have hsame : U.sameButNew ({ U with heap := s₂.heap, slotsUsed := s₂.slotsUsed } : State) L mc ms := by
      refine ⟨?_, q2, q3, q4, q5, q6⟩
      obtain ⟨t, ht, -⟩ := State.frames_cons hr
      show ({ U with heap := s₂.heap, slotsUsed := s₂.slotsUsed } : State) = { U.setFrames U.frames with heap := s₂.heap, slotsUsed := s₂.slotsUsed }
      rw [State.setFrames_self ht]
    subst hg
    refine Or.inl ⟨v, ⟨(({ U with heap := s₂.heap, slotsUsed := s₂.slotsUsed } : State).setVm s₂.vm), Ls ++ L, c0 + mc, s0 + ms⟩,
      ⟨X.admits, X.cas, X.clock, X.frames, X.room, X.hears, X.method, X.code, (X.here.setHeapUsed s₂.heap s₂.slotsUsed).setVm hW'.alike, X.tail, State.WarmedH.trans X.warmed hW', X.limits, X.bytes, X.same.trans (hsame.setVm s.vm)⟩,
      ⟨g, mk, s₂, L, rfl, rfl, hqc, rfl, hL, rfl, rfl⟩, ?_⟩
    show Steps p.tables e below _ ((({ U with heap := s₂.heap, slotsUsed := s₂.slotsUsed } : State).setVm s₂.vm).setTop { g with pc := g.pc + len₂, stack := v.toList ++ g.stack })
    rw [← hs₂]
    exact hsteps
  · obtain ⟨e2, q2, q3, q4, q5, q6⟩ := id hsm
    have e3 : s₂ = ({ (U.calling g mk a).setFrames s₂.frames with heap := s₂.heap, slotsUsed := s₂.slotsUsed } : State).setVm s₂.vm := by
      have : s₂ = ({ s₂ with vm := (U.calling g mk a).vm } : State).setVm s₂.vm := rfl
      rw [e2] at this
      exact this
    have hf₂ : s₂.frames = .throwing q :: .java g :: U.frames.tail := hend
    have hW' : U.WarmedH s₂.vm := hW₂
    have hs₂ : s₂ = ((({ U with heap := s₂.heap, slotsUsed := s₂.slotsUsed } : State).setVm s₂.vm).setTop g).pushFrame (.throwing q) := by
      refine e3.trans ?_
      rw [hf₂, State.calling_eq h.top, State.setFrames_setFrames, State.pushFrame, State.frames_setTop _ hr', State.setTop_of_frames _ hr', State.setFrames_setFrames, hr]
      rfl
    have hsame : U.sameButNew ({ U with heap := s₂.heap, slotsUsed := s₂.slotsUsed } : State) L mc ms := by
      refine ⟨?_, q2, q3, q4, q5, q6⟩
      obtain ⟨t, ht, -⟩ := State.frames_cons hr
      show ({ U with heap := s₂.heap, slotsUsed := s₂.slotsUsed } : State) = { U.setFrames U.frames with heap := s₂.heap, slotsUsed := s₂.slotsUsed }
      rw [State.setFrames_self ht]
    subst hg
    refine Or.inr ⟨q, ⟨(({ U with heap := s₂.heap, slotsUsed := s₂.slotsUsed } : State).setVm s₂.vm), Ls ++ L, c0 + mc, s0 + ms⟩,
      ⟨X.admits, X.cas, X.clock, X.frames, X.room, X.hears, X.method, X.code, (X.here.setHeapUsed s₂.heap s₂.slotsUsed).setVm hW'.alike, X.tail, State.WarmedH.trans X.warmed hW', X.limits, X.bytes, X.same.trans (hsame.setVm s.vm)⟩,
      ⟨g, mk, s₂, L, E, ce, rfl, rfl, hx, hce, hcv, hcl, rfl, hL, rfl, rfl⟩, ?_⟩
    show Steps p.tables e below _ (((({ U with heap := s₂.heap, slotsUsed := s₂.slotsUsed } : State).setVm s₂.vm).setTop g).pushFrame (.throwing q))
    rw [← hs₂]
    exact hsteps
end
variable {p : Program} {l : Launch} {e : Env} {R : Room} {s : State} {m : MethodId} {args : Array Value} {below : List Frame} {meth : Method} {c : Code} {T : State} {H : Heap} {locs : List Loc} {cells slots : Nat}
theorem vx_callVX (X : Stand p l e R s m args below meth c T locs cells slots) (hexec : p.tables.exec = Jvm.exec) {own C : String} {index : Nat} {y : MethodName} {bytes : ByteArray} {maxL : Nat} {ret : Option FieldType} {hh : List (Nat × Nat × Nat × Nat)}
    (hown : s.vm.findClass own = some m.cls) (hlink : (Cond.methodLink own index y).before args s = true) (hinst : (Cond.instanceMethod y).before args s = true) (hsel : (Cond.selects C y y).before args s = true)
    (hcode : (Cond.codeWith y bytes maxL ret hh).before args s = true) (hy : y.cls ≠ "java/lang/invoke/MethodHandle" ∧ y.cls ≠ "java/lang/invoke/VarHandle")
    {W9 : Nat} {Pre : Pt → Array Value → Prop} {Post : Pt → Array Value → Option Value → Pt → Prop} {PostX : Pt → Array Value → Addr → Pt → Prop} (hK : vx_Back l R p e below s args y 3 W9 Pre Post PostX)
    {b : Addr} {cellB : Cell} (hcell : T.heap[b]? = some cellB) (hobj : cellB.vm.isStatics = false) (hcls : s.vm.findClass C = some cellB.cls)
    {g : JFrame} (hg : g.method = m) (hsize : g.locals.size = c.maxLocals) {argsL rest : List Value} (hlen : ∀ sig, parseMethodDescriptor y.desc = some sig → argsL.length = sig.parameters.length)
    (hstack : g.stack = argsL.reverse ++ .ref b :: rest) (hW : 2 * g.monitorRoom + (rest.map fun v => v.category).sum ≤ W9) (hdg : decode c.code g.pc = .ok (.invokevirtual index, 3))
    (hpre : ∀ vm₁, s.WarmedH vm₁ → Pre ⟨T.setVm vm₁, locs, cells, slots⟩ (Value.ref b :: argsL).toArray) :
    (∃ (v : Option Value) (vm₁ : Vm) (B : Pt), s.WarmedH vm₁ ∧ Stand p l e R s m args below meth c B.U B.locs B.cells B.slots ∧ Post ⟨T.setVm vm₁, locs, cells, slots⟩ (Value.ref b :: argsL).toArray v B ∧
      ∀ target, Steps p.tables e below (B.U.setTop { g with pc := g.pc + 3, stack := v.toList ++ rest }) target → Steps p.tables e below (T.setTop g) target) ∨
    (∃ (q : Addr) (vm₁ : Vm) (B : Pt), s.WarmedH vm₁ ∧ Stand p l e R s m args below meth c B.U B.locs B.cells B.slots ∧ PostX ⟨T.setVm vm₁, locs, cells, slots⟩ (Value.ref b :: argsL).toArray q B ∧
      Steps p.tables e below (T.setTop g) ((B.U.setTop { g with stack := rest }).pushFrame (.throwing q))) := by
  obtain ⟨mk, methM, hnamed, hmethM, hstM, habM⟩ := Cond.instanceMethod_spec hinst
  obtain ⟨m8, methM', cM, hn8, hmethM', -, -, -, -, -, -, hsigM⟩ := Cond.codeWith_spec hcode
  cases Option.some.inj (hn8.symm.trans hnamed)
  cases hmethM.symm.trans hmethM'
  obtain ⟨c2, r2, m2, q1, q2, q3, q4, kP, hkP, hkPi⟩ := Cond.selects_spec hsel
  cases hcls.symm.trans q1
  cases (State.methodFound?_of_named hnamed hy).symm.trans q2
  cases hnamed.symm.trans q3
  have hselP : selectMethod e.platform s.vm cellB.cls mk = .method mk := by rw [Launch.admits_selectMethod X.admits]; exact q4
  obtain ⟨vm₁, X₁, hstep₁⟩ := X.invokevirtual hexec hown hlink hnamed hmethM hstM hkP hkPi hy (a := b) (cell := cellB) hcell
    (fun z h => by rw [h] at hobj; cases hobj) hselP hmethM habM hkP hkPi (g := g) hg (argsL := argsL) (rest := rest) (hlen _ hsigM) hstack hdg
  rcases hK m meth c ⟨T.setVm vm₁, locs, cells, slots⟩ { g with stack := rest } (.invokevirtual index) mk (Value.ref b :: argsL).toArray X₁ hg hsize hdg hW (X₁.named hnamed) (hpre vm₁ X₁.warmed) with ⟨v, B, X', hpost, hsteps⟩ | ⟨q, B, X', hpost, hsteps⟩
  · exact Or.inl ⟨v, vm₁, B, X₁.warmed, X', hpost, fun target h => hstep₁ _ fun acts => by rw [doInvoke_state]; exact hsteps.trans h⟩
  · exact Or.inr ⟨q, vm₁, B, X₁.warmed, X', hpost, hstep₁ _ fun acts => by rw [doInvoke_state]; exact hsteps⟩
theorem vx_callSX (X : Stand p l e R s m args below meth c T locs cells slots) (hexec : p.tables.exec = Jvm.exec) {own : String} {index : Nat} {y : MethodName} {bytes : ByteArray} {maxL : Nat} {ret : Option FieldType} {hh : List (Nat × Nat × Nat × Nat)}
    (hown : s.vm.findClass own = some m.cls) (hlink : (Cond.methodLink own index y).before args s = true) (hstat : (Cond.static y).before args s = true) (hinit : (Cond.initialized y.cls).before args s = true)
    (hcode : (Cond.codeWith y bytes maxL ret hh).before args s = true) (hy : y.cls ≠ "java/lang/invoke/MethodHandle" ∧ y.cls ≠ "java/lang/invoke/VarHandle")
    {W9 : Nat} {Pre : Pt → Array Value → Prop} {Post : Pt → Array Value → Option Value → Pt → Prop} {PostX : Pt → Array Value → Addr → Pt → Prop} (hK : vx_Back l R p e below s args y 3 W9 Pre Post PostX)
    {g : JFrame} (hg : g.method = m) (hsize : g.locals.size = c.maxLocals) {argsL rest : List Value} (hlen : ∀ sig, parseMethodDescriptor y.desc = some sig → argsL.length = sig.parameters.length)
    (hstack : g.stack = argsL.reverse ++ rest) (hW : 2 * g.monitorRoom + (rest.map fun v => v.category).sum ≤ W9) (hdg : decode c.code g.pc = .ok (.invokestatic index, 3))
    (hpre : ∀ vm₁, s.WarmedH vm₁ → Pre ⟨T.setVm vm₁, locs, cells, slots⟩ argsL.toArray) :
    (∃ (v : Option Value) (vm₁ : Vm) (B : Pt), s.WarmedH vm₁ ∧ Stand p l e R s m args below meth c B.U B.locs B.cells B.slots ∧ Post ⟨T.setVm vm₁, locs, cells, slots⟩ argsL.toArray v B ∧
      ∀ target, Steps p.tables e below (B.U.setTop { g with pc := g.pc + 3, stack := v.toList ++ rest }) target → Steps p.tables e below (T.setTop g) target) ∨
    (∃ (q : Addr) (vm₁ : Vm) (B : Pt), s.WarmedH vm₁ ∧ Stand p l e R s m args below meth c B.U B.locs B.cells B.slots ∧ PostX ⟨T.setVm vm₁, locs, cells, slots⟩ argsL.toArray q B ∧
      Steps p.tables e below (T.setTop g) ((B.U.setTop { g with stack := rest }).pushFrame (.throwing q))) := by
  obtain ⟨mk, methM, cM, hnamed, hmethM, -, -, -, -, -, -, hsigM⟩ := Cond.codeWith_spec hcode
  have hstatic : methM.isStatic = true := Cond.static_spec hnamed hmethM hstat
  obtain ⟨kP, hkP, -⟩ := className_of_methodNamed hnamed
  have hinitP : kP.init = .initialized := Cond.initialized_spec (findClass_of_methodNamed hnamed) hkP hinit
  obtain ⟨vm₁, X₁, hstep₁⟩ := X.invokestatic hexec hown hlink hnamed hmethM hstatic hkP hinitP hy (g := g) hg (argsL := argsL) (rest := rest) (hlen _ hsigM) hstack hdg
  rcases hK m meth c ⟨T.setVm vm₁, locs, cells, slots⟩ { g with stack := rest } (.invokestatic index) mk argsL.toArray X₁ hg hsize hdg hW (X₁.named hnamed) (hpre vm₁ X₁.warmed) with ⟨v, B, X', hpost, hsteps⟩ | ⟨q, B, X', hpost, hsteps⟩
  · exact Or.inl ⟨v, vm₁, B, X₁.warmed, X', hpost, fun target h => hstep₁ _ fun acts => by rw [doInvoke_state]; exact hsteps.trans h⟩
  · exact Or.inr ⟨q, vm₁, B, X₁.warmed, X', hpost, hstep₁ _ fun acts => by rw [doInvoke_state]; exact hsteps⟩
theorem vx_callVW (X : Stand p l e R s m args below meth c T locs cells slots) (hexec : p.tables.exec = Jvm.exec) {own C : String} {index : Nat} {y : MethodName} {bytes : ByteArray} {maxL : Nat} {ret : Option FieldType} {hh : List (Nat × Nat × Nat × Nat)}
    (hown : s.vm.findClass own = some m.cls) (hlink : (Cond.methodLink own index y).before args s = true) (hinst : (Cond.instanceMethod y).before args s = true) (hsel : (Cond.selects C y y).before args s = true)
    (hcode : (Cond.codeWith y bytes maxL ret hh).before args s = true) (hy : y.cls ≠ "java/lang/invoke/MethodHandle" ∧ y.cls ≠ "java/lang/invoke/VarHandle")
    {W9 : Nat} {Pre : Pt → Array Value → Prop} {Post : Pt → Array Value → Option Value → Pt → Prop} (hK : Back l R p e below s args y 3 W9 Pre Post)
    {b : Addr} {cellB : Cell} (hcell : T.heap[b]? = some cellB) (hobj : cellB.vm.isStatics = false) (hcls : s.vm.findClass C = some cellB.cls)
    {g : JFrame} (hg : g.method = m) (hsize : g.locals.size = c.maxLocals) {argsL rest : List Value} (hlen : ∀ sig, parseMethodDescriptor y.desc = some sig → argsL.length = sig.parameters.length)
    (hstack : g.stack = argsL.reverse ++ .ref b :: rest) (hW : 2 * g.monitorRoom + (rest.map fun v => v.category).sum ≤ W9) (hdg : decode c.code g.pc = .ok (.invokevirtual index, 3))
    (hpre : ∀ vm₁, s.WarmedH vm₁ → Pre ⟨T.setVm vm₁, locs, cells, slots⟩ (Value.ref b :: argsL).toArray) :
    ∃ (v : Option Value) (vm₁ : Vm) (B : Pt), s.WarmedH vm₁ ∧ Stand p l e R s m args below meth c B.U B.locs B.cells B.slots ∧ Post ⟨T.setVm vm₁, locs, cells, slots⟩ (Value.ref b :: argsL).toArray v B ∧
      ∀ target, Steps p.tables e below (B.U.setTop { g with pc := g.pc + 3, stack := v.toList ++ rest }) target → Steps p.tables e below (T.setTop g) target := by
  obtain ⟨mk, methM, hnamed, hmethM, hstM, habM⟩ := Cond.instanceMethod_spec hinst
  obtain ⟨m8, methM', cM, hn8, hmethM', -, -, -, -, -, -, hsigM⟩ := Cond.codeWith_spec hcode
  cases Option.some.inj (hn8.symm.trans hnamed)
  cases hmethM.symm.trans hmethM'
  obtain ⟨c2, r2, m2, q1, q2, q3, q4, kP, hkP, hkPi⟩ := Cond.selects_spec hsel
  cases hcls.symm.trans q1
  cases (State.methodFound?_of_named hnamed hy).symm.trans q2
  cases hnamed.symm.trans q3
  have hselP : selectMethod e.platform s.vm cellB.cls mk = .method mk := by rw [Launch.admits_selectMethod X.admits]; exact q4
  obtain ⟨vm₁, X₁, hstep₁⟩ := X.invokevirtual hexec hown hlink hnamed hmethM hstM hkP hkPi hy (a := b) (cell := cellB) hcell
    (fun z h => by rw [h] at hobj; cases hobj) hselP hmethM habM hkP hkPi (g := g) hg (argsL := argsL) (rest := rest) (hlen _ hsigM) hstack hdg
  obtain ⟨v, B, X', hpost, hsteps⟩ := hK m meth c ⟨T.setVm vm₁, locs, cells, slots⟩ { g with stack := rest } (.invokevirtual index) mk (Value.ref b :: argsL).toArray X₁ hg hsize hdg hW (X₁.named hnamed) (hpre vm₁ X₁.warmed)
  exact ⟨v, vm₁, B, X₁.warmed, X', hpost, fun target h => hstep₁ _ fun acts => by rw [doInvoke_state]; exact hsteps.trans h⟩
abbrev vx_CVW (R : Room) (s : State) (args : Array Value) (own C : String) (index : Nat) (y : MethodName) (bytes : ByteArray) (maxL : Nat) (ret : Option FieldType) (hh : List (Nat × Nat × Nat × Nat)) (ws : List Cond) (rm : Room) (mc ms n : Nat) : Prop :=
  (rm.cells = mc ∧ rm.slots = ms ∧ rm.frames + 1 ≤ R.frames ∧ 8 + (maxL + 11) + rm.locals ≤ R.locals ∧ (∀ w ∈ ws, ∀ (a' : Array Value) (U : State), s.WarmedH U.vm → w.before a' U = true) ∧ Cond.codeWith y bytes maxL ret hh ∈ ws) ∧
  (Cond.codeWith y bytes maxL ret hh).before args s = true ∧ (Cond.initialized y.cls).before args s = true ∧ (y.cls ≠ "java/lang/invoke/MethodHandle" ∧ y.cls ≠ "java/lang/invoke/VarHandle") ∧
  (∀ sig, parseMethodDescriptor y.desc = some sig → n = sig.parameters.length) ∧ (Cond.methodLink own index y).before args s = true ∧ (Cond.instanceMethod y).before args s = true ∧ (Cond.selects C y y).before args s = true
theorem vx_cwVW {own C : String} {index maxL mc ms : Nat} {y : MethodName} {bytes : ByteArray} {ret : Option FieldType} {hh : List (Nat × Nat × Nat × Nat)} {Ts ws ws' : List Cond} {rm : Room} (n : Nat) (ht : ∀ w ∈ Ts, w.before args s = true) (hT : GoodIn Ts (wsV own index C y ws)) (hw : ws = Cond.codeWith y bytes maxL ret hh :: ws') (hrc : rm.cells = mc) (hrs : rm.slots = ms)
    (hd : y.cls = C ∧ y.cls ≠ "java/lang/invoke/MethodHandle" ∧ y.cls ≠ "java/lang/invoke/VarHandle" ∧ (parseMethodDescriptor y.desc).map (fun d => d.parameters.length) = some n) (hR : rm.frames + 1 ≤ R.frames ∧ 8 + (maxL + 11) + rm.locals ≤ R.locals) :
    vx_CVW R s args own C index y bytes maxL ret hh ws rm mc ms n := by
  obtain ⟨hC, hd⟩ := hd
  subst hC
  have ok : ∀ w ∈ wsV own index y.cls y ws, w.before args s = true := fun w h => ht w (hT w h).1
  have hG : GoodIn Ts ws := fun w h => hT w (by unfold wsV; exact List.mem_append_right _ h)
  have hc : Cond.codeWith y bytes maxL ret hh ∈ ws := by rw [hw]; exact List.mem_cons_self
  refine ⟨⟨hrc, hrs, hR.1, hR.2, pay_in ht hG, hc⟩, ht _ (hG _ hc).1, ok _ (by simp [wsV]), ⟨hd.1, hd.2.1⟩, fun sig h => ?_, ok _ (by simp [wsV]), ok _ (by simp [wsV]), ok _ (by simp [wsV])⟩
  have h2 := hd.2.2
  rw [h] at h2
  exact (Option.some.inj h2).symm
theorem vx_runVW {y : MethodName} {bytes cc : ByteArray} {maxL nL mc ms n index : Nat} {ret : Option FieldType} {hh : List (Nat × Nat × Nat × Nat)} {ws : List Cond} {rm : Room} {Pc : Array Value → State → Prop} {Qc : Array Value → State → Outcome → State → Prop} {free : Addr → Prop} {Ts : List Cond} {own C : String} {b : Addr} {As rest : List Value} {g : JFrame}
    (S : CallFix p m c cc nL s args Ts own) (hM : Met l y ws rm Pc Qc mc ms free) (cw : vx_CVW R s args own C index y bytes maxL ret hh ws rm mc ms n) (hp : PreV s H C b Pc As)
    (hg : g.method = m) (hn : As.length = n) (hsize : g.locals.size = nL) (hstack : g.stack = As.reverse ++ .ref b :: rest) (hW : 2 * g.monitorRoom + (rest.map fun v => v.category).sum ≤ 8) (hdg : decode cc g.pc = .ok (.invokevirtual index, 3)) (hf : cells + mc ≤ R.cells ∧ slots + ms ≤ R.slots) :
    va_Run p l e R s m args below meth c H locs cells slots mc ms g rest (Qc (Value.ref b :: As).toArray) free := by
  obtain ⟨⟨hrc, hrs, hfr, hlo, hws, hcw⟩, hcode, hini, hy, hlen, hl, hin, hse⟩ := cw
  have hK : Back l R p e below s args y 3 8 (PreOf R mc ms Pc) (PostOf Qc mc ms free) := va_backW (hh := hh) (bytes := bytes) (maxL := maxL) (ret := ret) hM hp.1 hrc hrs hfr hlo hws hcw (fun a' U hW => word_at hW (Or.inl (by first | rfl | simp [Cond.onTables, Cond.keeps, Cond.steady])) hini)
  obtain ⟨hx, hb, hml, ho, -⟩ := S
  obtain ⟨-, ⟨cellB, hcB, hoB, hclB⟩, hPc⟩ := hp
  intro T hT X
  obtain ⟨v, vm₁, ⟨U', l2, c2, s2⟩, hW₁, X', ⟨g', mk, t, L, e1, e2, hq, h1, hL, h2, h3⟩, st⟩ := vx_callVW X hx (C := C) (hh := hh) (bytes := bytes) (maxL := maxL) (ret := ret) ho hl hin hse hcode hy hK (by rw [hT]; exact hcB) hoB hclB hg (hsize.trans hml.symm) (argsL := As) (rest := rest) (fun sig h => hn.trans (hlen sig h)) hstack hW (by rw [hb]; exact hdg)
    (fun vm₁ hW₁ => ⟨hf.1, hf.2, hPc (T.setVm vm₁) hT hW₁⟩)
  dsimp only [Pt.U, Pt.locs, Pt.cells, Pt.slots] at X' e1 e2 h1 h2 h3 st
  subst h1; subst h2; subst h3
  exact ⟨v, (T.setVm vm₁).calling g' mk (Value.ref b :: As).toArray, t, U', L, hT, X', hL, e1, e2, hq, st⟩
section
variable {y : MethodName} {bytes cc : ByteArray} {maxL nL mc ms n index : Nat} {ret : Option FieldType} {ws : List Cond} {rm : Room} {Pc : Array Value → State → Prop} {Qc : Array Value → State → Outcome → State → Prop} {XC : String → State → State → Prop} {free : Addr → Prop} {Ts : List Cond} {own C : String} {b : Addr} {As rest : List Value} {g : JFrame}
theorem vx_runVX {hh : List (Nat × Nat × Nat × Nat)} (S : CallFix p m c cc nL s args Ts own) (hM : vx_Met l y ws rm Pc Qc XC mc ms free) (cw : vx_CVW R s args own C index y bytes maxL ret hh ws rm mc ms n) (hp : PreV s H C b Pc As)
    (hg : g.method = m) (hn : As.length = n) (hsize : g.locals.size = nL) (hstack : g.stack = As.reverse ++ .ref b :: rest) (hW : 2 * g.monitorRoom + (rest.map fun v => v.category).sum ≤ 8) (hdg : decode cc g.pc = .ok (.invokevirtual index, 3)) (hf : cells + mc ≤ R.cells ∧ slots + ms ≤ R.slots) :
    vx_Run p l e R s m args below meth c H locs cells slots mc ms g rest (Qc (Value.ref b :: As).toArray) XC free := by
  obtain ⟨⟨hrc, hrs, hfr, hlo, hws, hcw⟩, hcode, hini, hy, hlen, hl, hin, hse⟩ := cw
  have hK : vx_Back l R p e below s args y 3 8 (PreOf R mc ms Pc) (PostOf Qc mc ms free) (vx_Post XC mc ms free) := vx_backW (hh := hh) (bytes := bytes) (maxL := maxL) (ret := ret) hM hp.1 hrc hrs hfr hlo hws hcw (fun a' U hW => word_at hW (Or.inl (by first | rfl | simp [Cond.onTables, Cond.keeps, Cond.steady])) hini)
  obtain ⟨hx, hb, hml, ho, -⟩ := S
  obtain ⟨-, ⟨cellB, hcB, hoB, hclB⟩, hPc⟩ := hp
  intro T hT X
  rcases vx_callVX X hx (C := C) (hh := hh) (bytes := bytes) (maxL := maxL) (ret := ret) ho hl hin hse hcode hy hK (by rw [hT]; exact hcB) hoB hclB hg (hsize.trans hml.symm) (argsL := As) (rest := rest) (fun sig h => hn.trans (hlen sig h)) hstack hW (by rw [hb]; exact hdg)
    (fun vm₁ hW₁ => ⟨hf.1, hf.2, hPc (T.setVm vm₁) hT hW₁⟩) with ⟨v, vm₁, ⟨U', l2, c2, s2⟩, hW₁, X', ⟨g', mk, t, L, e1, e2, hq, h1, hL, h2, h3⟩, st⟩ | ⟨q, vm₁, ⟨U', l2, c2, s2⟩, hW₁, X', ⟨g', mk, t, L, E, ce, e1, e2, hq, hce, hcv, hcl, h1, hL, h2, h3⟩, st⟩
  · dsimp only [Pt.U, Pt.locs, Pt.cells, Pt.slots] at X' e1 e2 h1 h2 h3 st
    subst h1; subst h2; subst h3
    exact Or.inl ⟨v, (T.setVm vm₁).calling g' mk (Value.ref b :: As).toArray, t, U', L, hT, X', hL, e1, e2, hq, st⟩
  · dsimp only [Pt.U, Pt.locs, Pt.cells, Pt.slots] at X' e1 e2 h1 h2 h3 st hcl
    subst h1; subst h2; subst h3
    exact Or.inr ⟨q, (T.setVm vm₁).calling g' mk (Value.ref b :: As).toArray, t, U', L, E, ce, hT, X', hL, e1, e2, hq, hce, hcv, vx_cls hW₁ hcl, st⟩
theorem vx_runSX {hh : List (Nat × Nat × Nat × Nat)} (S : CallFix p m c cc nL s args Ts own) (hM : vx_Met l y ws rm Pc Qc XC mc ms free) (cw : vx_CSW R s args own index y bytes maxL ret hh ws rm mc ms n) (hp : PreS s H Pc As)
    (hg : g.method = m) (hn : As.length = n) (hsize : g.locals.size = nL) (hstack : g.stack = As.reverse ++ rest) (hW : 2 * g.monitorRoom + (rest.map fun v => v.category).sum ≤ 8) (hdg : decode cc g.pc = .ok (.invokestatic index, 3)) (hf : cells + mc ≤ R.cells ∧ slots + ms ≤ R.slots) :
    vx_Run p l e R s m args below meth c H locs cells slots mc ms g rest (Qc As.toArray) XC free := by
  obtain ⟨⟨hrc, hrs, hfr, hlo, hws, hcw⟩, hcode, hini, hy, hlen, hl, hstt⟩ := cw
  have hK : vx_Back l R p e below s args y 3 8 (PreOf R mc ms Pc) (PostOf Qc mc ms free) (vx_Post XC mc ms free) := vx_backW (hh := hh) (bytes := bytes) (maxL := maxL) (ret := ret) hM hp.1 hrc hrs hfr hlo hws hcw (fun a' U hW => word_at hW (Or.inl (by first | rfl | simp [Cond.onTables, Cond.keeps, Cond.steady])) hini)
  obtain ⟨hx, hb, hml, ho, -⟩ := S
  intro T hT X
  rcases vx_callSX X hx (hh := hh) (bytes := bytes) (maxL := maxL) (ret := ret) ho hl hstt hini hcode hy hK hg (hsize.trans hml.symm) (argsL := As) (rest := rest) (fun sig h => hn.trans (hlen sig h)) hstack hW (by rw [hb]; exact hdg)
    (fun vm₁ hW₁ => ⟨hf.1, hf.2, hp.2 (T.setVm vm₁) hT hW₁⟩) with ⟨v, vm₁, ⟨U', l2, c2, s2⟩, hW₁, X', ⟨g', mk, t, L, e1, e2, hq, h1, hL, h2, h3⟩, st⟩ | ⟨q, vm₁, ⟨U', l2, c2, s2⟩, hW₁, X', ⟨g', mk, t, L, E, ce, e1, e2, hq, hce, hcv, hcl, h1, hL, h2, h3⟩, st⟩
  · dsimp only [Pt.U, Pt.locs, Pt.cells, Pt.slots] at X' e1 e2 h1 h2 h3 st
    subst h1; subst h2; subst h3
    exact Or.inl ⟨v, (T.setVm vm₁).calling g' mk As.toArray, t, U', L, hT, X', hL, e1, e2, hq, st⟩
  · dsimp only [Pt.U, Pt.locs, Pt.cells, Pt.slots] at X' e1 e2 h1 h2 h3 st hcl
    subst h1; subst h2; subst h3
    exact Or.inr ⟨q, (T.setVm vm₁).calling g' mk As.toArray, t, U', L, E, ce, hT, X', hL, e1, e2, hq, hce, hcv, vx_cls hW₁ hcl, st⟩
end
end VXH
theorem vx_ofWH {l : Launch} {y : MethodName} {ws ws' : List Cond} {rm : Room} {Pc : Array Value → State → Prop} {Qc : Array Value → State → Outcome → State → Prop} {XC : String → State → State → Prop} {mc ms : Nat} {free : Addr → Prop} {cc : ByteArray} {maxL : Nat} {ret : Option FieldType} {hh : List (Nat × Nat × Nat × Nat)}
    (hy : plainName y.cls = true) (hw : ws = Cond.codeWith y cc maxL ret hh :: ws')
    (body : ∀ p e s m args below meth c s₁, BodyLoose p l y (headSpec ws rm) cc maxL ret e s m args below meth c s₁ → c.maxLocals = maxL → Pc args s →
      W p l e (headSpec ws rm).room s m args below meth c s.heap [] 0 0 (vx_MQ below Qc XC args s mc ms free) (entryFrame m args maxL)) : vx_Met l y ws rm Pc Qc XC mc ms free := by
  refine MetFree.of_bodyS (code := cc) (maxLocals := maxL) (ret := ret) hy ?_ ?_
  · intro args s m h hn
    obtain ⟨m9, meth, c, hn9, h1, h2, h3, h4, -, h5, h6, -⟩ := Cond.codeWith_spec (atoms_spec (ws := ws) h _ (by rw [hw]; exact List.mem_cons_self))
    cases hn.symm.trans hn9
    exact ⟨meth, c, h1, h2, h3, h4, h5, h6⟩
  · intro p e s m args below meth c s₁ B hml hP _
    have hh0 : s₁.heap = s.heap := by rw [B.state]; rfl
    obtain ⟨t, a1, o, b1, b2, b3⟩ := body p e s m args below meth c s₁ B hml hP s₁ hh0 (Stand.of_body B)
    exact ⟨t, o, a1, b1, b2, b3⟩
/-! ===== END ===== -/
end
section
/-! ===== BEGIN a private method of a nest mate that may throw (follows va_callVN, va_callSN, va_runVN, va_runSN) ===== -/
section
variable {p : Program} {l : Launch} {e : Env} {R : Room} {s : State} {m : MethodId} {args : Array Value} {below : List Frame} {meth : Method} {c : Code} {H : Heap} {locs : List Loc} {cells slots : Nat}
variable {T : State}
theorem vx_callVN (X : Stand p l e R s m args below meth c T locs cells slots) (hexec : p.tables.exec = Jvm.exec) {own C : String} {index : Nat} {host : String} {y : MethodName} {bytes : ByteArray} {maxL : Nat} {ret : Option FieldType}
    (hown : s.vm.findClass own = some m.cls) (hlink : (Cond.methodLinkNest own index y host).before args s = true) (hinst : (Cond.instanceMethod y).before args s = true) (hsel : (Cond.selects C y y).before args s = true)
    (hcode : (Cond.code y bytes maxL ret).before args s = true) (hy : y.cls ≠ "java/lang/invoke/MethodHandle" ∧ y.cls ≠ "java/lang/invoke/VarHandle")
    {W : Nat} {Pre : Pt → Array Value → Prop} {Post : Pt → Array Value → Option Value → Pt → Prop} {PostX : Pt → Array Value → Addr → Pt → Prop} (hK : vx_Back l R p e below s args y 3 W Pre Post PostX)
    {b : Addr} {cellB : Cell} (hcell : T.heap[b]? = some cellB) (hobj : cellB.vm.isStatics = false) (hcls : s.vm.findClass C = some cellB.cls)
    {g : JFrame} (hg : g.method = m) (hsize : g.locals.size = c.maxLocals) {argsL rest : List Value} (hlen : ∀ sig, parseMethodDescriptor y.desc = some sig → argsL.length = sig.parameters.length)
    (hstack : g.stack = argsL.reverse ++ .ref b :: rest) (hW : 2 * g.monitorRoom + (rest.map fun v => v.category).sum ≤ W) (hdg : decode c.code g.pc = .ok (.invokevirtual index, 3))
    (hpre : ∀ vm₁, s.WarmedH vm₁ → Pre ⟨T.setVm vm₁, locs, cells, slots⟩ (Value.ref b :: argsL).toArray) :
    (∃ (v : Option Value) (vm₁ : Vm) (B : Pt), s.WarmedH vm₁ ∧ Stand p l e R s m args below meth c B.U B.locs B.cells B.slots ∧ Post ⟨T.setVm vm₁, locs, cells, slots⟩ (Value.ref b :: argsL).toArray v B ∧
      ∀ target, Steps p.tables e below (B.U.setTop { g with pc := g.pc + 3, stack := v.toList ++ rest }) target → Steps p.tables e below (T.setTop g) target) ∨
    (∃ (q : Addr) (vm₁ : Vm) (B : Pt), s.WarmedH vm₁ ∧ Stand p l e R s m args below meth c B.U B.locs B.cells B.slots ∧ PostX ⟨T.setVm vm₁, locs, cells, slots⟩ (Value.ref b :: argsL).toArray q B ∧
      Steps p.tables e below (T.setTop g) ((B.U.setTop { g with stack := rest }).pushFrame (.throwing q))) := by
  obtain ⟨mk, methM, hnamed, hmethM, hstM, habM⟩ := Cond.instanceMethod_spec hinst
  obtain ⟨methM', cM, hmethM', -, -, -, -, -, -, hsigM⟩ := Cond.code_spec hnamed hcode
  cases hmethM.symm.trans hmethM'
  obtain ⟨c2, r2, m2, q1, q2, q3, q4, kP, hkP, hkPi⟩ := Cond.selects_spec hsel
  cases hcls.symm.trans q1
  cases (State.methodFound?_of_named hnamed hy).symm.trans q2
  cases hnamed.symm.trans q3
  have hselP : selectMethod e.platform s.vm cellB.cls mk = .method mk := by rw [Launch.admits_selectMethod X.admits]; exact q4
  obtain ⟨vm₁, X₁, hstep₁⟩ := X.invokevirtualNest hexec hown hlink hnamed hmethM hstM hkP hkPi hy (a := b) (cell := cellB) hcell
    (fun z h => by rw [h] at hobj; cases hobj) hselP hmethM habM hkP hkPi (g := g) hg (argsL := argsL) (rest := rest) (hlen _ hsigM) hstack hdg
  rcases hK m meth c ⟨T.setVm vm₁, locs, cells, slots⟩ { g with stack := rest } (.invokevirtual index) mk (Value.ref b :: argsL).toArray X₁ hg hsize hdg hW (X₁.named hnamed) (hpre vm₁ X₁.warmed) with ⟨v, B, X', hpost, hsteps⟩ | ⟨q, B, X', hpost, hsteps⟩
  · exact Or.inl ⟨v, vm₁, B, X₁.warmed, X', hpost, fun target h => hstep₁ _ fun acts => by rw [doInvoke_state]; exact hsteps.trans h⟩
  · exact Or.inr ⟨q, vm₁, B, X₁.warmed, X', hpost, hstep₁ _ fun acts => by rw [doInvoke_state]; exact hsteps⟩
theorem vx_callSN (X : Stand p l e R s m args below meth c T locs cells slots) (hexec : p.tables.exec = Jvm.exec) {own : String} {index : Nat} {host : String} {y : MethodName} {bytes : ByteArray} {maxL : Nat} {ret : Option FieldType}
    (hown : s.vm.findClass own = some m.cls) (hlink : (Cond.methodLinkNest own index y host).before args s = true) (hstat : (Cond.static y).before args s = true) (hinit : (Cond.initialized y.cls).before args s = true)
    (hcode : (Cond.code y bytes maxL ret).before args s = true) (hy : y.cls ≠ "java/lang/invoke/MethodHandle" ∧ y.cls ≠ "java/lang/invoke/VarHandle")
    {W : Nat} {Pre : Pt → Array Value → Prop} {Post : Pt → Array Value → Option Value → Pt → Prop} {PostX : Pt → Array Value → Addr → Pt → Prop} (hK : vx_Back l R p e below s args y 3 W Pre Post PostX)
    {g : JFrame} (hg : g.method = m) (hsize : g.locals.size = c.maxLocals) {argsL rest : List Value} (hlen : ∀ sig, parseMethodDescriptor y.desc = some sig → argsL.length = sig.parameters.length)
    (hstack : g.stack = argsL.reverse ++ rest) (hW : 2 * g.monitorRoom + (rest.map fun v => v.category).sum ≤ W) (hdg : decode c.code g.pc = .ok (.invokestatic index, 3))
    (hpre : ∀ vm₁, s.WarmedH vm₁ → Pre ⟨T.setVm vm₁, locs, cells, slots⟩ argsL.toArray) :
    (∃ (v : Option Value) (vm₁ : Vm) (B : Pt), s.WarmedH vm₁ ∧ Stand p l e R s m args below meth c B.U B.locs B.cells B.slots ∧ Post ⟨T.setVm vm₁, locs, cells, slots⟩ argsL.toArray v B ∧
      ∀ target, Steps p.tables e below (B.U.setTop { g with pc := g.pc + 3, stack := v.toList ++ rest }) target → Steps p.tables e below (T.setTop g) target) ∨
    (∃ (q : Addr) (vm₁ : Vm) (B : Pt), s.WarmedH vm₁ ∧ Stand p l e R s m args below meth c B.U B.locs B.cells B.slots ∧ PostX ⟨T.setVm vm₁, locs, cells, slots⟩ argsL.toArray q B ∧
      Steps p.tables e below (T.setTop g) ((B.U.setTop { g with stack := rest }).pushFrame (.throwing q))) := by
  obtain ⟨mk, hnamed⟩ := Cond.code_named hcode
  obtain ⟨methM, cM, hmethM, -, -, -, -, -, -, hsigM⟩ := Cond.code_spec hnamed hcode
  have hstatic : methM.isStatic = true := Cond.static_spec hnamed hmethM hstat
  obtain ⟨kP, hkP, -⟩ := className_of_methodNamed hnamed
  have hinitP : kP.init = .initialized := Cond.initialized_spec (findClass_of_methodNamed hnamed) hkP hinit
  obtain ⟨vm₁, X₁, hstep₁⟩ := X.invokestaticNest hexec hown hlink hnamed hmethM hstatic hkP hinitP hy (g := g) hg (argsL := argsL) (rest := rest) (hlen _ hsigM) hstack hdg
  rcases hK m meth c ⟨T.setVm vm₁, locs, cells, slots⟩ { g with stack := rest } (.invokestatic index) mk argsL.toArray X₁ hg hsize hdg hW (X₁.named hnamed) (hpre vm₁ X₁.warmed) with ⟨v, B, X', hpost, hsteps⟩ | ⟨q, B, X', hpost, hsteps⟩
  · exact Or.inl ⟨v, vm₁, B, X₁.warmed, X', hpost, fun target h => hstep₁ _ fun acts => by rw [doInvoke_state]; exact hsteps.trans h⟩
  · exact Or.inr ⟨q, vm₁, B, X₁.warmed, X', hpost, hstep₁ _ fun acts => by rw [doInvoke_state]; exact hsteps⟩
theorem vx_runVN {y : MethodName} {bytes cc : ByteArray} {maxL nL mc ms n index : Nat} {ret : Option FieldType} {ws : List Cond} {rm : Room} {Pc : Array Value → State → Prop} {Qc : Array Value → State → Outcome → State → Prop} {XC : String → State → State → Prop} {free : Addr → Prop} {Ts : List Cond} {own C host : String} {b : Addr} {As rest : List Value} {g : JFrame}
    (S : CallFix p m c cc nL s args Ts own) (hM : vx_Met l y ws rm Pc Qc XC mc ms free) (cw : va_CN R s args own index y host bytes maxL ret ws rm mc ms n ∧ (Cond.instanceMethod y).before args s = true ∧ (Cond.selects C y y).before args s = true) (hp : PreV s H C b Pc As)
    (hg : g.method = m) (hn : As.length = n) (hsize : g.locals.size = nL) (hstack : g.stack = As.reverse ++ .ref b :: rest) (hW : 2 * g.monitorRoom + (rest.map fun v => v.category).sum ≤ 8) (hdg : decode cc g.pc = .ok (.invokevirtual index, 3)) (hf : cells + mc ≤ R.cells ∧ slots + ms ≤ R.slots) :
    vx_Run p l e R s m args below meth c H locs cells slots mc ms g rest (Qc (Value.ref b :: As).toArray) XC free := by
  obtain ⟨⟨⟨hrc, hrs, hfr, hlo, hws, hcw⟩, hcode, hini, hy, hlen, hl⟩, hx1, hx2⟩ := cw
  have hK : vx_Back l R p e below s args y 3 8 (PreOf R mc ms Pc) (PostOf Qc mc ms free) (vx_Post XC mc ms free) := vx_back (bytes := bytes) (maxL := maxL) (ret := ret) hM hp.1 hrc hrs hfr hlo hws hcw (fun a' U hW => word_at hW (Or.inl (by first | rfl | simp [Cond.onTables, Cond.keeps, Cond.steady])) hini)
  obtain ⟨hx, hb, hml, ho, -⟩ := S
  obtain ⟨-, ⟨cellB, hcB, hoB, hclB⟩, hPc⟩ := hp
  intro T hT X
  rcases vx_callVN X hx (C := C) (bytes := bytes) (maxL := maxL) (ret := ret) ho hl hx1 hx2 hcode hy hK (by rw [hT]; exact hcB) hoB hclB hg (hsize.trans hml.symm) (argsL := As) (rest := rest) (fun sig h => hn.trans (hlen sig h)) hstack hW (by rw [hb]; exact hdg)
    (fun vm₁ hW₁ => ⟨hf.1, hf.2, hPc (T.setVm vm₁) hT hW₁⟩) with ⟨v, vm₁, ⟨U', l2, c2, s2⟩, hW₁, X', ⟨g', mk, t, L, e1, e2, hq, h1, hL, h2, h3⟩, st⟩ | ⟨q, vm₁, ⟨U', l2, c2, s2⟩, hW₁, X', ⟨g', mk, t, L, E, ce, e1, e2, hq, hce, hcv, hcl, h1, hL, h2, h3⟩, st⟩
  · dsimp only [Pt.U, Pt.locs, Pt.cells, Pt.slots] at X' e1 e2 h1 h2 h3 st
    subst h1; subst h2; subst h3
    exact Or.inl ⟨v, (T.setVm vm₁).calling g' mk (Value.ref b :: As).toArray, t, U', L, hT, X', hL, e1, e2, hq, st⟩
  · dsimp only [Pt.U, Pt.locs, Pt.cells, Pt.slots] at X' e1 e2 h1 h2 h3 st hcl
    subst h1; subst h2; subst h3
    exact Or.inr ⟨q, (T.setVm vm₁).calling g' mk (Value.ref b :: As).toArray, t, U', L, E, ce, hT, X', hL, e1, e2, hq, hce, hcv, vx_cls hW₁ hcl, st⟩
theorem vx_runSN {y : MethodName} {bytes cc : ByteArray} {maxL nL mc ms n index : Nat} {ret : Option FieldType} {ws : List Cond} {rm : Room} {Pc : Array Value → State → Prop} {Qc : Array Value → State → Outcome → State → Prop} {XC : String → State → State → Prop} {free : Addr → Prop} {Ts : List Cond} {own host : String} {As rest : List Value} {g : JFrame}
    (S : CallFix p m c cc nL s args Ts own) (hM : vx_Met l y ws rm Pc Qc XC mc ms free) (cw : va_CN R s args own index y host bytes maxL ret ws rm mc ms n ∧ (Cond.static y).before args s = true ∧ True) (hp : PreS s H Pc As)
    (hg : g.method = m) (hn : As.length = n) (hsize : g.locals.size = nL) (hstack : g.stack = As.reverse ++ rest) (hW : 2 * g.monitorRoom + (rest.map fun v => v.category).sum ≤ 8) (hdg : decode cc g.pc = .ok (.invokestatic index, 3)) (hf : cells + mc ≤ R.cells ∧ slots + ms ≤ R.slots) :
    vx_Run p l e R s m args below meth c H locs cells slots mc ms g rest (Qc As.toArray) XC free := by
  obtain ⟨⟨⟨hrc, hrs, hfr, hlo, hws, hcw⟩, hcode, hini, hy, hlen, hl⟩, hx1, hx2⟩ := cw
  have hK : vx_Back l R p e below s args y 3 8 (PreOf R mc ms Pc) (PostOf Qc mc ms free) (vx_Post XC mc ms free) := vx_back (bytes := bytes) (maxL := maxL) (ret := ret) hM hp.1 hrc hrs hfr hlo hws hcw (fun a' U hW => word_at hW (Or.inl (by first | rfl | simp [Cond.onTables, Cond.keeps, Cond.steady])) hini)
  obtain ⟨hx, hb, hml, ho, -⟩ := S
  have hPc := hp.2
  intro T hT X
  rcases vx_callSN X hx (bytes := bytes) (maxL := maxL) (ret := ret) ho hl hx1 hini hcode hy hK hg (hsize.trans hml.symm) (argsL := As) (rest := rest) (fun sig h => hn.trans (hlen sig h)) hstack hW (by rw [hb]; exact hdg)
    (fun vm₁ hW₁ => ⟨hf.1, hf.2, hPc (T.setVm vm₁) hT hW₁⟩) with ⟨v, vm₁, ⟨U', l2, c2, s2⟩, hW₁, X', ⟨g', mk, t, L, e1, e2, hq, h1, hL, h2, h3⟩, st⟩ | ⟨q, vm₁, ⟨U', l2, c2, s2⟩, hW₁, X', ⟨g', mk, t, L, E, ce, e1, e2, hq, hce, hcv, hcl, h1, hL, h2, h3⟩, st⟩
  · dsimp only [Pt.U, Pt.locs, Pt.cells, Pt.slots] at X' e1 e2 h1 h2 h3 st
    subst h1; subst h2; subst h3
    exact Or.inl ⟨v, (T.setVm vm₁).calling g' mk As.toArray, t, U', L, hT, X', hL, e1, e2, hq, st⟩
  · dsimp only [Pt.U, Pt.locs, Pt.cells, Pt.slots] at X' e1 e2 h1 h2 h3 st hcl
    subst h1; subst h2; subst h3
    exact Or.inr ⟨q, (T.setVm vm₁).calling g' mk As.toArray, t, U', L, E, ce, hT, X', hL, e1, e2, hq, hce, hcv, vx_cls hW₁ hcl, st⟩
end
/-! ===== END ===== -/
end
section
/-! ===== BEGIN printed: names, fields, word lists, decode rows ===== -/
def RX0 : String := "Timesheets$Employee"
def TX0 : u_T := fun k => match k with
  | 0 => ("Timesheets$Employee", "wage", "I", false)
  | 1 => ("Timesheets$Employee", "weeksClosed", "I", false)
  | 2 => ("Timesheets$Employee", "earnings", "J", false)
  | 3 => ("Timesheets$Employee", "punches", "LTimesheets$Table;", true)
  | 4 => ("Timesheets$Employee", "entries", "LTimesheets$Table;", true)
  | _ => ("Timesheets$Employee", "breaks", "LTimesheets$Table;", true)
def tyX0 : Nat → FieldType := fun k => match k with
  | 0 => .int
  | 1 => .int
  | 2 => .long
  | 3 => .object "Timesheets$Table"
  | 4 => .object "Timesheets$Table"
  | _ => .object "Timesheets$Table"
abbrev wsX00 : List Cond := u_ws RX0 TX0 6
theorem nmX0 : ∀ a, a < 6 → ∀ b, b < 6 → a ≠ b → (TX0 a).2.1 ≠ (TX0 b).2.1 := by decide +kernel
theorem tyX0_ok : ∀ k, k < 6 → parseFieldDescriptor (TX0 k).2.2.1 = some (tyX0 k) := by decide +kernel
abbrev cX0_init : ByteArray := prog_2_method_1_code
def yX0_init : MethodName := ⟨RX0, "<init>", "(I)V"⟩
abbrev cX0_beginNextWeek : ByteArray := prog_2_method_2_code
def yX0_beginNextWeek : MethodName := ⟨RX0, "beginNextWeek", "(I)V"⟩
def RX1 : String := "Timesheets$Payroll"
def TX1 : u_T := fun k => match k with
  | 0 => ("Timesheets$Payroll", "timeline", "LTimesheets$Timeline;", true)
  | 1 => ("Timesheets$Payroll", "paid", "LTimesheets$Table;", true)
  | _ => ("Timesheets$Payroll", "parts", "LTimesheets$Table;", true)
def tyX1 : Nat → FieldType := fun k => match k with
  | 0 => .object "Timesheets$Timeline"
  | 1 => .object "Timesheets$Table"
  | _ => .object "Timesheets$Table"
abbrev wsX10 : List Cond := u_ws RX1 TX1 3
theorem nmX1 : ∀ a, a < 3 → ∀ b, b < 3 → a ≠ b → (TX1 a).2.1 ≠ (TX1 b).2.1 := by decide +kernel
theorem tyX1_ok : ∀ k, k < 3 → parseFieldDescriptor (TX1 k).2.2.1 = some (tyX1 k) := by decide +kernel
abbrev cX1_init : ByteArray := prog_3_method_1_code
def yX1_init : MethodName := ⟨RX1, "<init>", "()V"⟩
abbrev cX1_read : ByteArray := prog_3_method_2_code
def yX1_read : MethodName := ⟨RX1, "read", "(LTimesheets$Employee;)V"⟩
abbrev cX1_takeOffAutomaticBreaks : ByteArray := prog_3_method_3_code
def yX1_takeOffAutomaticBreaks : MethodName := ⟨RX1, "takeOffAutomaticBreaks", "(LTimesheets$Table;)V"⟩
abbrev cX1_isFull : ByteArray := prog_3_method_4_code
def yX1_isFull : MethodName := ⟨RX1, "isFull", "()Z"⟩
abbrev cX1_addPartsOfDay : ByteArray := prog_3_method_5_code
def yX1_addPartsOfDay : MethodName := ⟨RX1, "addPartsOfDay", "(IIZ)V"⟩
abbrev cX1_addParts : ByteArray := prog_3_method_6_code
def yX1_addParts : MethodName := ⟨RX1, "addParts", "(IIIIZ)V"⟩
abbrev cX1_untilLimit : ByteArray := prog_3_method_7_code
def yX1_untilLimit : MethodName := ⟨RX1, "untilLimit", "(II)I"⟩
abbrev cX1_categoryFor : ByteArray := prog_3_method_8_code
def yX1_categoryFor : MethodName := ⟨RX1, "categoryFor", "(IIZ)I"⟩
abbrev cX1_categoryAt : ByteArray := prog_3_method_9_code
def yX1_categoryAt : MethodName := ⟨RX1, "categoryAt", "(I)I"⟩
abbrev cX1_minutesOf : ByteArray := prog_3_method_10_code
def yX1_minutesOf : MethodName := ⟨RX1, "minutesOf", "(II)I"⟩
abbrev cX1_quartersOf : ByteArray := prog_3_method_11_code
def yX1_quartersOf : MethodName := ⟨RX1, "quartersOf", "(II)I"⟩
abbrev cX1_quartersOfWeek : ByteArray := prog_3_method_12_code
def yX1_quartersOfWeek : MethodName := ⟨RX1, "quartersOfWeek", "(I)I"⟩
abbrev cX1_basicPay : ByteArray := prog_3_method_13_code
def yX1_basicPay : MethodName := ⟨RX1, "basicPay", "(I)I"⟩
def RX2 : String := "Timesheets$Premiums"
def TX2 : u_T := fun k => match k with
  | _ => ("Timesheets$Premiums", "rows", "LTimesheets$Table;", true)
def tyX2 : Nat → FieldType := fun k => match k with
  | _ => .object "Timesheets$Table"
abbrev wsX20 : List Cond := u_ws RX2 TX2 1
theorem nmX2 : ∀ a, a < 1 → ∀ b, b < 1 → a ≠ b → (TX2 a).2.1 ≠ (TX2 b).2.1 := by decide +kernel
theorem tyX2_ok : ∀ k, k < 1 → parseFieldDescriptor (TX2 k).2.2.1 = some (tyX2 k) := by decide +kernel
abbrev cX2_init : ByteArray := prog_4_method_1_code
def yX2_init : MethodName := ⟨RX2, "<init>", "()V"⟩
abbrev cX2_add : ByteArray := prog_4_method_2_code
def yX2_add : MethodName := ⟨RX2, "add", "(IIII)I"⟩
abbrev cX2_payFor : ByteArray := prog_4_method_3_code
def yX2_payFor : MethodName := ⟨RX2, "payFor", "(LTimesheets$Table;)I"⟩
abbrev cX2_sumOver : ByteArray := prog_4_method_4_code
def yX2_sumOver : MethodName := ⟨RX2, "sumOver", "(II)I"⟩
abbrev cX2_nextChange : ByteArray := prog_4_method_5_code
def yX2_nextChange : MethodName := ⟨RX2, "nextChange", "(I)I"⟩
abbrev cX2_greatestRate : ByteArray := prog_4_method_6_code
def yX2_greatestRate : MethodName := ⟨RX2, "greatestRate", "(II)I"⟩
abbrev cX2_isBetween : ByteArray := prog_4_method_7_code
def yX2_isBetween : MethodName := ⟨RX2, "isBetween", "(III)Z"⟩
def RX3 : String := "Timesheets$Shifts"
def TX3 : u_T := fun k => match k with
  | 0 => ("Timesheets$Shifts", "spans", "LTimesheets$Table;", true)
  | _ => ("Timesheets$Shifts", "repaired", "I", false)
def tyX3 : Nat → FieldType := fun k => match k with
  | 0 => .object "Timesheets$Table"
  | _ => .int
abbrev wsX30 : List Cond := u_ws RX3 TX3 2
theorem nmX3 : ∀ a, a < 2 → ∀ b, b < 2 → a ≠ b → (TX3 a).2.1 ≠ (TX3 b).2.1 := by decide +kernel
theorem tyX3_ok : ∀ k, k < 2 → parseFieldDescriptor (TX3 k).2.2.1 = some (tyX3 k) := by decide +kernel
abbrev cX3_init : ByteArray := prog_5_method_1_code
def yX3_init : MethodName := ⟨RX3, "<init>", "()V"⟩
abbrev cX3_read : ByteArray := prog_5_method_2_code
def yX3_read : MethodName := ⟨RX3, "read", "(LTimesheets$Table;)V"⟩
abbrev cX3_addFromIn : ByteArray := prog_5_method_3_code
def yX3_addFromIn : MethodName := ⟨RX3, "addFromIn", "(LTimesheets$Table;I)V"⟩
abbrev cX3_addFromLoneOut : ByteArray := prog_5_method_4_code
def yX3_addFromLoneOut : MethodName := ⟨RX3, "addFromLoneOut", "(LTimesheets$Table;I)V"⟩
abbrev cX3_isIn : ByteArray := prog_5_method_5_code
def yX3_isIn : MethodName := ⟨RX3, "isIn", "(LTimesheets$Table;I)Z"⟩
def RX4 : String := "Timesheets$Table"
def TX4 : u_T := fun k => match k with
  | 0 => ("Timesheets$Table", "width", "I", true)
  | 1 => ("Timesheets$Table", "cells", "[I", true)
  | _ => ("Timesheets$Table", "rows", "I", false)
def tyX4 : Nat → FieldType := fun k => match k with
  | 0 => .int
  | 1 => .array .int
  | _ => .int
abbrev wsX40 : List Cond := u_ws RX4 TX4 3
theorem nmX4 : ∀ a, a < 3 → ∀ b, b < 3 → a ≠ b → (TX4 a).2.1 ≠ (TX4 b).2.1 := by decide +kernel
theorem tyX4_ok : ∀ k, k < 3 → parseFieldDescriptor (TX4 k).2.2.1 = some (tyX4 k) := by decide +kernel
abbrev cX4_init : ByteArray := prog_6_method_1_code
def yX4_init : MethodName := ⟨RX4, "<init>", "(II)V"⟩
abbrev cX4_size : ByteArray := prog_6_method_2_code
def yX4_size : MethodName := ⟨RX4, "size", "()I"⟩
abbrev cX4_get : ByteArray := prog_6_method_3_code
def yX4_get : MethodName := ⟨RX4, "get", "(II)I"⟩
abbrev cX4_set : ByteArray := prog_6_method_4_code
def yX4_set : MethodName := ⟨RX4, "set", "(III)V"⟩
abbrev cX4_insert : ByteArray := prog_6_method_5_code
def yX4_insert : MethodName := ⟨RX4, "insert", "(I)V"⟩
abbrev cX4_remove : ByteArray := prog_6_method_6_code
def yX4_remove : MethodName := ⟨RX4, "remove", "(I)V"⟩
abbrev cX4_addSpan : ByteArray := prog_6_method_7_code
def yX4_addSpan : MethodName := ⟨RX4, "addSpan", "(II)V"⟩
abbrev cX4_clear : ByteArray := prog_6_method_8_code
def yX4_clear : MethodName := ⟨RX4, "clear", "()V"⟩
def RX5 : String := "Timesheets$Timeline"
def TX5 : u_T := fun k => match k with
  | 0 => ("Timesheets$Timeline", "shiftList", "LTimesheets$Shifts;", true)
  | 1 => ("Timesheets$Timeline", "events", "LTimesheets$Table;", true)
  | 2 => ("Timesheets$Timeline", "stretchList", "LTimesheets$Table;", true)
  | _ => ("Timesheets$Timeline", "coveredTwice", "I", false)
def tyX5 : Nat → FieldType := fun k => match k with
  | 0 => .object "Timesheets$Shifts"
  | 1 => .object "Timesheets$Table"
  | 2 => .object "Timesheets$Table"
  | _ => .int
abbrev wsX50 : List Cond := u_ws RX5 TX5 4
theorem nmX5 : ∀ a, a < 4 → ∀ b, b < 4 → a ≠ b → (TX5 a).2.1 ≠ (TX5 b).2.1 := by decide +kernel
theorem tyX5_ok : ∀ k, k < 4 → parseFieldDescriptor (TX5 k).2.2.1 = some (tyX5 k) := by decide +kernel
abbrev cX5_init : ByteArray := prog_7_method_1_code
def yX5_init : MethodName := ⟨RX5, "<init>", "()V"⟩
abbrev cX5_read : ByteArray := prog_7_method_2_code
def yX5_read : MethodName := ⟨RX5, "read", "(LTimesheets$Employee;)V"⟩
abbrev cX5_addEvents : ByteArray := prog_7_method_3_code
def yX5_addEvents : MethodName := ⟨RX5, "addEvents", "(LTimesheets$Table;II)V"⟩
abbrev cX5_addEvent : ByteArray := prog_7_method_4_code
def yX5_addEvent : MethodName := ⟨RX5, "addEvent", "(III)V"⟩
abbrev cX5_goThroughEvents : ByteArray := prog_7_method_5_code
def yX5_goThroughEvents : MethodName := ⟨RX5, "goThroughEvents", "()V"⟩
abbrev cX5_addWorked : ByteArray := prog_7_method_6_code
def yX5_addWorked : MethodName := ⟨RX5, "addWorked", "(II)V"⟩
def RX6 : String := "Timesheets"
def TX6 : u_T := fun k => match k with
  | 0 => ("Timesheets", "staff", "[LTimesheets$Employee;", true)
  | 1 => ("Timesheets", "hired", "I", false)
  | 2 => ("Timesheets", "premiums", "LTimesheets$Premiums;", true)
  | 3 => ("Timesheets", "payroll", "LTimesheets$Payroll;", true)
  | 4 => ("Timesheets", "timeline", "LTimesheets$Timeline;", true)
  | _ => ("Timesheets", "shiftList", "LTimesheets$Shifts;", true)
def tyX6 : Nat → FieldType := fun k => match k with
  | 0 => .array (.object "Timesheets$Employee")
  | 1 => .int
  | 2 => .object "Timesheets$Premiums"
  | 3 => .object "Timesheets$Payroll"
  | 4 => .object "Timesheets$Timeline"
  | _ => .object "Timesheets$Shifts"
abbrev wsX60 : List Cond := u_ws RX6 TX6 6
theorem nmX6 : ∀ a, a < 6 → ∀ b, b < 6 → a ≠ b → (TX6 a).2.1 ≠ (TX6 b).2.1 := by decide +kernel
theorem tyX6_ok : ∀ k, k < 6 → parseFieldDescriptor (TX6 k).2.2.1 = some (tyX6 k) := by decide +kernel
abbrev cX6_init : ByteArray := prog_1_method_1_code
def yX6_init : MethodName := ⟨RX6, "<init>", "()V"⟩
abbrev cX6_hire : ByteArray := prog_1_method_2_code
def yX6_hire : MethodName := ⟨RX6, "hire", "(I)I"⟩
abbrev cX6_setWage : ByteArray := prog_1_method_3_code
def yX6_setWage : MethodName := ⟨RX6, "setWage", "(II)I"⟩
abbrev cX6_punch : ByteArray := prog_1_method_4_code
def yX6_punch : MethodName := ⟨RX6, "punch", "(IIZ)I"⟩
abbrev cX6_removePunch : ByteArray := prog_1_method_5_code
def yX6_removePunch : MethodName := ⟨RX6, "removePunch", "(II)Z"⟩
abbrev cX6_enter : ByteArray := prog_1_method_6_code
def yX6_enter : MethodName := ⟨RX6, "enter", "(III)I"⟩
abbrev cX6_removeEntry : ByteArray := prog_1_method_7_code
def yX6_removeEntry : MethodName := ⟨RX6, "removeEntry", "(II)I"⟩
abbrev cX6_enterBreak : ByteArray := prog_1_method_8_code
def yX6_enterBreak : MethodName := ⟨RX6, "enterBreak", "(III)I"⟩
abbrev cX6_removeBreak : ByteArray := prog_1_method_9_code
def yX6_removeBreak : MethodName := ⟨RX6, "removeBreak", "(II)I"⟩
abbrev cX6_addPremium : ByteArray := prog_1_method_10_code
def yX6_addPremium : MethodName := ⟨RX6, "addPremium", "(IIII)I"⟩
abbrev cX6_removePremium : ByteArray := prog_1_method_11_code
def yX6_removePremium : MethodName := ⟨RX6, "removePremium", "(I)I"⟩
abbrev cX6_closeWeek : ByteArray := prog_1_method_12_code
def yX6_closeWeek : MethodName := ⟨RX6, "closeWeek", "(I)I"⟩
abbrev cX6_employees : ByteArray := prog_1_method_13_code
def yX6_employees : MethodName := ⟨RX6, "employees", "()I"⟩
abbrev cX6_closedWeeks : ByteArray := prog_1_method_14_code
def yX6_closedWeeks : MethodName := ⟨RX6, "closedWeeks", "(I)I"⟩
abbrev cX6_earned : ByteArray := prog_1_method_15_code
def yX6_earned : MethodName := ⟨RX6, "earned", "(I)J"⟩
abbrev cX6_shifts : ByteArray := prog_1_method_16_code
def yX6_shifts : MethodName := ⟨RX6, "shifts", "(I)I"⟩
abbrev cX6_shiftBegin : ByteArray := prog_1_method_17_code
def yX6_shiftBegin : MethodName := ⟨RX6, "shiftBegin", "(II)I"⟩
abbrev cX6_shiftEnd : ByteArray := prog_1_method_18_code
def yX6_shiftEnd : MethodName := ⟨RX6, "shiftEnd", "(II)I"⟩
abbrev cX6_repairedShifts : ByteArray := prog_1_method_19_code
def yX6_repairedShifts : MethodName := ⟨RX6, "repairedShifts", "(I)I"⟩
abbrev cX6_coverage : ByteArray := prog_1_method_20_code
def yX6_coverage : MethodName := ⟨RX6, "coverage", "(II)I"⟩
abbrev cX6_overlap : ByteArray := prog_1_method_21_code
def yX6_overlap : MethodName := ⟨RX6, "overlap", "(I)I"⟩
abbrev cX6_workedOn : ByteArray := prog_1_method_22_code
def yX6_workedOn : MethodName := ⟨RX6, "workedOn", "(II)I"⟩
abbrev cX6_stretches : ByteArray := prog_1_method_23_code
def yX6_stretches : MethodName := ⟨RX6, "stretches", "(I)I"⟩
abbrev cX6_longestStretch : ByteArray := prog_1_method_24_code
def yX6_longestStretch : MethodName := ⟨RX6, "longestStretch", "(I)I"⟩
abbrev cX6_category : ByteArray := prog_1_method_25_code
def yX6_category : MethodName := ⟨RX6, "category", "(II)I"⟩
abbrev cX6_minutes : ByteArray := prog_1_method_26_code
def yX6_minutes : MethodName := ⟨RX6, "minutes", "(III)I"⟩
abbrev cX6_quarters : ByteArray := prog_1_method_27_code
def yX6_quarters : MethodName := ⟨RX6, "quarters", "(III)I"⟩
abbrev cX6_premiumPay : ByteArray := prog_1_method_28_code
def yX6_premiumPay : MethodName := ⟨RX6, "premiumPay", "(I)I"⟩
abbrev cX6_pay : ByteArray := prog_1_method_29_code
def yX6_pay : MethodName := ⟨RX6, "pay", "(I)I"⟩
abbrev cX6_find : ByteArray := prog_1_method_30_code
def yX6_find : MethodName := ⟨RX6, "find", "(I)LTimesheets$Employee;"⟩
abbrev cX6_requireWithin : ByteArray := prog_1_method_31_code
def yX6_requireWithin : MethodName := ⟨RX6, "requireWithin", "(III)V"⟩
abbrev cX6_requireRoom : ByteArray := prog_1_method_32_code
def yX6_requireRoom : MethodName := ⟨RX6, "requireRoom", "(LTimesheets$Table;I)V"⟩
abbrev cX6_requireNumber : ByteArray := prog_1_method_33_code
def yX6_requireNumber : MethodName := ⟨RX6, "requireNumber", "(LTimesheets$Table;I)V"⟩
abbrev cX6_addByHand : ByteArray := prog_1_method_34_code
def yX6_addByHand : MethodName := ⟨RX6, "addByHand", "(LTimesheets$Table;III)I"⟩
abbrev cX6_removeNumbered : ByteArray := prog_1_method_35_code
def yX6_removeNumbered : MethodName := ⟨RX6, "removeNumbered", "(LTimesheets$Table;I)I"⟩
abbrev cX6_placeOfPunch : ByteArray := prog_1_method_36_code
def yX6_placeOfPunch : MethodName := ⟨RX6, "placeOfPunch", "(LTimesheets$Table;I)I"⟩
abbrev cX6_isPunchAt : ByteArray := prog_1_method_37_code
def yX6_isPunchAt : MethodName := ⟨RX6, "isPunchAt", "(LTimesheets$Table;II)Z"⟩
abbrev cX6_countContaining : ByteArray := prog_1_method_38_code
def yX6_countContaining : MethodName := ⟨RX6, "countContaining", "(LTimesheets$Table;I)I"⟩
abbrev cX6_minutesOnDay : ByteArray := prog_1_method_39_code
def yX6_minutesOnDay : MethodName := ⟨RX6, "minutesOnDay", "(LTimesheets$Table;I)I"⟩
abbrev cX6_longest : ByteArray := prog_1_method_40_code
def yX6_longest : MethodName := ⟨RX6, "longest", "(LTimesheets$Table;)I"⟩
def RX7 : String := "TimesheetsModel"
def TX7 : u_T := fun k => match k with
  | 0 => ("TimesheetsModel", "thrown", "I", false)
  | 1 => ("TimesheetsModel", "many", "I", false)
  | 2 => ("TimesheetsModel", "wages", "[I", true)
  | 3 => ("TimesheetsModel", "closed", "[I", true)
  | 4 => ("TimesheetsModel", "gained", "[J", true)
  | 5 => ("TimesheetsModel", "punchMany", "[I", true)
  | 6 => ("TimesheetsModel", "punchTime", "[I", true)
  | 7 => ("TimesheetsModel", "isIn", "[Z", true)
  | 8 => ("TimesheetsModel", "entryMany", "[I", true)
  | 9 => ("TimesheetsModel", "entryFrom", "[I", true)
  | 10 => ("TimesheetsModel", "entryTo", "[I", true)
  | 11 => ("TimesheetsModel", "breakMany", "[I", true)
  | 12 => ("TimesheetsModel", "breakFrom", "[I", true)
  | 13 => ("TimesheetsModel", "breakTo", "[I", true)
  | 14 => ("TimesheetsModel", "rateMany", "I", false)
  | 15 => ("TimesheetsModel", "rateDays", "[I", true)
  | 16 => ("TimesheetsModel", "rateFrom", "[I", true)
  | 17 => ("TimesheetsModel", "rateTo", "[I", true)
  | 18 => ("TimesheetsModel", "rates", "[I", true)
  | 19 => ("TimesheetsModel", "shiftMany", "I", false)
  | 20 => ("TimesheetsModel", "repairs", "I", false)
  | 21 => ("TimesheetsModel", "begins", "[I", true)
  | 22 => ("TimesheetsModel", "ends", "[I", true)
  | 23 => ("TimesheetsModel", "cover", "[I", true)
  | 24 => ("TimesheetsModel", "rest", "[I", true)
  | 25 => ("TimesheetsModel", "kind", "[I", true)
  | 26 => ("TimesheetsModel", "worked", "[I", true)
  | 27 => ("TimesheetsModel", "paid", "[I", true)
  | 28 => ("TimesheetsModel", "sums", "[I", true)
  | 29 => ("TimesheetsModel", "shares", "[I", true)
  | 30 => ("TimesheetsModel", "weekShares", "[I", true)
  | 31 => ("TimesheetsModel", "doubled", "I", false)
  | 32 => ("TimesheetsModel", "runs", "I", false)
  | _ => ("TimesheetsModel", "longest", "I", false)
def tyX7 : Nat → FieldType := fun k => match k with
  | 0 => .int
  | 1 => .int
  | 2 => .array .int
  | 3 => .array .int
  | 4 => .array .long
  | 5 => .array .int
  | 6 => .array .int
  | 7 => .array .boolean
  | 8 => .array .int
  | 9 => .array .int
  | 10 => .array .int
  | 11 => .array .int
  | 12 => .array .int
  | 13 => .array .int
  | 14 => .int
  | 15 => .array .int
  | 16 => .array .int
  | 17 => .array .int
  | 18 => .array .int
  | 19 => .int
  | 20 => .int
  | 21 => .array .int
  | 22 => .array .int
  | 23 => .array .int
  | 24 => .array .int
  | 25 => .array .int
  | 26 => .array .int
  | 27 => .array .int
  | 28 => .array .int
  | 29 => .array .int
  | 30 => .array .int
  | 31 => .int
  | 32 => .int
  | _ => .int
abbrev wsX70 : List Cond := u_ws RX7 TX7 34
theorem nmX7 : ∀ a, a < 34 → ∀ b, b < 34 → a ≠ b → (TX7 a).2.1 ≠ (TX7 b).2.1 := by decide +kernel
theorem tyX7_ok : ∀ k, k < 34 → parseFieldDescriptor (TX7 k).2.2.1 = some (tyX7 k) := by decide +kernel
abbrev cX7_init : ByteArray := prog_9_method_1_code
def yX7_init : MethodName := ⟨RX7, "<init>", "()V"⟩
abbrev cX7_thrown : ByteArray := prog_9_method_2_code
def yX7_thrown : MethodName := ⟨RX7, "thrown", "()I"⟩
abbrev cX7_fails : ByteArray := prog_9_method_3_code
def yX7_fails : MethodName := ⟨RX7, "fails", "(I)I"⟩
abbrev cX7_in : ByteArray := prog_9_method_4_code
def yX7_in : MethodName := ⟨RX7, "in", "(III)Z"⟩
abbrev cX7_isOne : ByteArray := prog_9_method_5_code
def yX7_isOne : MethodName := ⟨RX7, "isOne", "(I)Z"⟩
abbrev cX7_hire : ByteArray := prog_9_method_6_code
def yX7_hire : MethodName := ⟨RX7, "hire", "(I)I"⟩
abbrev cX7_setWage : ByteArray := prog_9_method_7_code
def yX7_setWage : MethodName := ⟨RX7, "setWage", "(II)I"⟩
abbrev cX7_placeOf : ByteArray := prog_9_method_8_code
def yX7_placeOf : MethodName := ⟨RX7, "placeOf", "(II)I"⟩
abbrev cX7_hasPunch : ByteArray := prog_9_method_9_code
def yX7_hasPunch : MethodName := ⟨RX7, "hasPunch", "(II)Z"⟩
abbrev cX7_punch : ByteArray := prog_9_method_10_code
def yX7_punch : MethodName := ⟨RX7, "punch", "(IIZ)I"⟩
abbrev cX7_removePunch : ByteArray := prog_9_method_11_code
def yX7_removePunch : MethodName := ⟨RX7, "removePunch", "(II)Z"⟩
abbrev cX7_puts : ByteArray := prog_9_method_12_code
def yX7_puts : MethodName := ⟨RX7, "puts", "(III[I[I[I)I"⟩
abbrev cX7_takes : ByteArray := prog_9_method_13_code
def yX7_takes : MethodName := ⟨RX7, "takes", "(II[I[I[I)I"⟩
abbrev cX7_enter : ByteArray := prog_9_method_14_code
def yX7_enter : MethodName := ⟨RX7, "enter", "(III)I"⟩
abbrev cX7_removeEntry : ByteArray := prog_9_method_15_code
def yX7_removeEntry : MethodName := ⟨RX7, "removeEntry", "(II)I"⟩
abbrev cX7_enterBreak : ByteArray := prog_9_method_16_code
def yX7_enterBreak : MethodName := ⟨RX7, "enterBreak", "(III)I"⟩
abbrev cX7_removeBreak : ByteArray := prog_9_method_17_code
def yX7_removeBreak : MethodName := ⟨RX7, "removeBreak", "(II)I"⟩
abbrev cX7_addPremium : ByteArray := prog_9_method_18_code
def yX7_addPremium : MethodName := ⟨RX7, "addPremium", "(IIII)I"⟩
abbrev cX7_removePremium : ByteArray := prog_9_method_19_code
def yX7_removePremium : MethodName := ⟨RX7, "removePremium", "(I)I"⟩
abbrev cX7_makes : ByteArray := prog_9_method_20_code
def yX7_makes : MethodName := ⟨RX7, "makes", "(IIZ)V"⟩
abbrev cX7_findsShifts : ByteArray := prog_9_method_21_code
def yX7_findsShifts : MethodName := ⟨RX7, "findsShifts", "(I)V"⟩
abbrev cX7_marks : ByteArray := prog_9_method_22_code
def yX7_marks : MethodName := ⟨RX7, "marks", "([III)V"⟩
abbrev cX7_lays : ByteArray := prog_9_method_23_code
def yX7_lays : MethodName := ⟨RX7, "lays", "(I)V"⟩
abbrev cX7_findsPaid : ByteArray := prog_9_method_24_code
def yX7_findsPaid : MethodName := ⟨RX7, "findsPaid", "()V"⟩
abbrev cX7_findsKinds : ByteArray := prog_9_method_25_code
def yX7_findsKinds : MethodName := ⟨RX7, "findsKinds", "()V"⟩
abbrev cX7_findsShares : ByteArray := prog_9_method_26_code
def yX7_findsShares : MethodName := ⟨RX7, "findsShares", "()V"⟩
abbrev cX7_ahead : ByteArray := prog_9_method_27_code
def yX7_ahead : MethodName := ⟨RX7, "ahead", "(II)I"⟩
abbrev cX7_applies : ByteArray := prog_9_method_28_code
def yX7_applies : MethodName := ⟨RX7, "applies", "(II)Z"⟩
abbrev cX7_extra : ByteArray := prog_9_method_29_code
def yX7_extra : MethodName := ⟨RX7, "extra", "()I"⟩
abbrev cX7_payOf : ByteArray := prog_9_method_30_code
def yX7_payOf : MethodName := ⟨RX7, "payOf", "(I)I"⟩
abbrev cX7_closeWeek : ByteArray := prog_9_method_31_code
def yX7_closeWeek : MethodName := ⟨RX7, "closeWeek", "(I)I"⟩
abbrev cX7_employees : ByteArray := prog_9_method_32_code
def yX7_employees : MethodName := ⟨RX7, "employees", "()I"⟩
abbrev cX7_closedWeeks : ByteArray := prog_9_method_33_code
def yX7_closedWeeks : MethodName := ⟨RX7, "closedWeeks", "(I)I"⟩
abbrev cX7_earned : ByteArray := prog_9_method_34_code
def yX7_earned : MethodName := ⟨RX7, "earned", "(I)J"⟩
abbrev cX7_looks : ByteArray := prog_9_method_35_code
def yX7_looks : MethodName := ⟨RX7, "looks", "(I)Z"⟩
abbrev cX7_shifts : ByteArray := prog_9_method_36_code
def yX7_shifts : MethodName := ⟨RX7, "shifts", "(I)I"⟩
abbrev cX7_shiftBegin : ByteArray := prog_9_method_37_code
def yX7_shiftBegin : MethodName := ⟨RX7, "shiftBegin", "(II)I"⟩
abbrev cX7_shiftEnd : ByteArray := prog_9_method_38_code
def yX7_shiftEnd : MethodName := ⟨RX7, "shiftEnd", "(II)I"⟩
abbrev cX7_repairedShifts : ByteArray := prog_9_method_39_code
def yX7_repairedShifts : MethodName := ⟨RX7, "repairedShifts", "(I)I"⟩
abbrev cX7_coverage : ByteArray := prog_9_method_40_code
def yX7_coverage : MethodName := ⟨RX7, "coverage", "(II)I"⟩
abbrev cX7_overlap : ByteArray := prog_9_method_41_code
def yX7_overlap : MethodName := ⟨RX7, "overlap", "(I)I"⟩
abbrev cX7_workedOn : ByteArray := prog_9_method_42_code
def yX7_workedOn : MethodName := ⟨RX7, "workedOn", "(II)I"⟩
abbrev cX7_stretches : ByteArray := prog_9_method_43_code
def yX7_stretches : MethodName := ⟨RX7, "stretches", "(I)I"⟩
abbrev cX7_longestStretch : ByteArray := prog_9_method_44_code
def yX7_longestStretch : MethodName := ⟨RX7, "longestStretch", "(I)I"⟩
abbrev cX7_category : ByteArray := prog_9_method_45_code
def yX7_category : MethodName := ⟨RX7, "category", "(II)I"⟩
abbrev cX7_told : ByteArray := prog_9_method_46_code
def yX7_told : MethodName := ⟨RX7, "told", "(III[I)I"⟩
abbrev cX7_minutes : ByteArray := prog_9_method_47_code
def yX7_minutes : MethodName := ⟨RX7, "minutes", "(III)I"⟩
abbrev cX7_quarters : ByteArray := prog_9_method_48_code
def yX7_quarters : MethodName := ⟨RX7, "quarters", "(III)I"⟩
abbrev cX7_premiumPay : ByteArray := prog_9_method_49_code
def yX7_premiumPay : MethodName := ⟨RX7, "premiumPay", "(I)I"⟩
abbrev cX7_pay : ByteArray := prog_9_method_50_code
def yX7_pay : MethodName := ⟨RX7, "pay", "(I)I"⟩
def RJx145de : String := "java/io/Serializable"
def TJx145de : u_T := fun k => match k with
  | _ => ("", "", "", false)
def tyJx145de : Nat → FieldType := fun k => match k with
  | _ => .int
abbrev wsJx145de0 : List Cond := u_ws RJx145de TJx145de 0
theorem nmJx145de : ∀ a, a < 0 → ∀ b, b < 0 → a ≠ b → (TJx145de a).2.1 ≠ (TJx145de b).2.1 := by decide +kernel
theorem tyJx145de_ok : ∀ k, k < 0 → parseFieldDescriptor (TJx145de k).2.2.1 = some (tyJx145de k) := by decide +kernel
def RJ9 : String := "java/lang/Math"
def TJ9 : u_T := fun k => match k with
  | _ => ("", "", "", false)
def tyJ9 : Nat → FieldType := fun k => match k with
  | _ => .int
abbrev wsJ90 : List Cond := u_ws RJ9 TJ9 0
theorem nmJ9 : ∀ a, a < 0 → ∀ b, b < 0 → a ≠ b → (TJ9 a).2.1 ≠ (TJ9 b).2.1 := by decide +kernel
theorem tyJ9_ok : ∀ k, k < 0 → parseFieldDescriptor (TJ9 k).2.2.1 = some (tyJ9 k) := by decide +kernel
abbrev cJ9_max_7cf53 : ByteArray := prog_15_method_65_code
def yJ9_max_7cf53 : MethodName := ⟨RJ9, "max", "(II)I"⟩
abbrev cJ9_min_7cf53 : ByteArray := prog_15_method_69_code
def yJ9_min_7cf53 : MethodName := ⟨RJ9, "min", "(II)I"⟩
def RJ0 : String := "java/lang/String"
def TJ0 : u_T := fun k => match k with
  | _ => ("", "", "", false)
def tyJ0 : Nat → FieldType := fun k => match k with
  | _ => .int
abbrev wsJ00 : List Cond := u_ws RJ0 TJ0 0
theorem nmJ0 : ∀ a, a < 0 → ∀ b, b < 0 → a ≠ b → (TJ0 a).2.1 ≠ (TJ0 b).2.1 := by decide +kernel
theorem tyJ0_ok : ∀ k, k < 0 → parseFieldDescriptor (TJ0 k).2.2.1 = some (tyJ0 k) := by decide +kernel
def RL : String := "TimesheetsLaw"
abbrev cL_hire : ByteArray := method_3_code
def yL_hire : MethodName := ⟨RL, "hire", "(LTimesheets;I[J)I"⟩
abbrev cL_setWage : ByteArray := method_4_code
def yL_setWage : MethodName := ⟨RL, "setWage", "(LTimesheets;II[J)I"⟩
abbrev cL_punch : ByteArray := method_5_code
def yL_punch : MethodName := ⟨RL, "punch", "(LTimesheets;IIZ[J)I"⟩
abbrev cL_removePunch : ByteArray := method_6_code
def yL_removePunch : MethodName := ⟨RL, "removePunch", "(LTimesheets;II[J)I"⟩
abbrev cL_enter : ByteArray := method_7_code
def yL_enter : MethodName := ⟨RL, "enter", "(LTimesheets;III[J)I"⟩
abbrev cL_removeEntry : ByteArray := method_8_code
def yL_removeEntry : MethodName := ⟨RL, "removeEntry", "(LTimesheets;II[J)I"⟩
abbrev cL_enterBreak : ByteArray := method_9_code
def yL_enterBreak : MethodName := ⟨RL, "enterBreak", "(LTimesheets;III[J)I"⟩
abbrev cL_removeBreak : ByteArray := method_10_code
def yL_removeBreak : MethodName := ⟨RL, "removeBreak", "(LTimesheets;II[J)I"⟩
abbrev cL_addPremium : ByteArray := method_11_code
def yL_addPremium : MethodName := ⟨RL, "addPremium", "(LTimesheets;IIII[J)I"⟩
abbrev cL_removePremium : ByteArray := method_12_code
def yL_removePremium : MethodName := ⟨RL, "removePremium", "(LTimesheets;I[J)I"⟩
abbrev cL_closeWeek : ByteArray := method_13_code
def yL_closeWeek : MethodName := ⟨RL, "closeWeek", "(LTimesheets;I[J)I"⟩
abbrev cL_closedWeeks : ByteArray := method_14_code
def yL_closedWeeks : MethodName := ⟨RL, "closedWeeks", "(LTimesheets;I[J)I"⟩
abbrev cL_earned : ByteArray := method_15_code
def yL_earned : MethodName := ⟨RL, "earned", "(LTimesheets;I[J)I"⟩
abbrev cL_shifts : ByteArray := method_16_code
def yL_shifts : MethodName := ⟨RL, "shifts", "(LTimesheets;I[J)I"⟩
abbrev cL_shiftBegin : ByteArray := method_17_code
def yL_shiftBegin : MethodName := ⟨RL, "shiftBegin", "(LTimesheets;II[J)I"⟩
abbrev cL_shiftEnd : ByteArray := method_18_code
def yL_shiftEnd : MethodName := ⟨RL, "shiftEnd", "(LTimesheets;II[J)I"⟩
abbrev cL_repairedShifts : ByteArray := method_19_code
def yL_repairedShifts : MethodName := ⟨RL, "repairedShifts", "(LTimesheets;I[J)I"⟩
abbrev cL_coverage : ByteArray := method_20_code
def yL_coverage : MethodName := ⟨RL, "coverage", "(LTimesheets;II[J)I"⟩
abbrev cL_overlap : ByteArray := method_21_code
def yL_overlap : MethodName := ⟨RL, "overlap", "(LTimesheets;I[J)I"⟩
abbrev cL_workedOn : ByteArray := method_22_code
def yL_workedOn : MethodName := ⟨RL, "workedOn", "(LTimesheets;II[J)I"⟩
abbrev cL_stretches : ByteArray := method_23_code
def yL_stretches : MethodName := ⟨RL, "stretches", "(LTimesheets;I[J)I"⟩
abbrev cL_longestStretch : ByteArray := method_24_code
def yL_longestStretch : MethodName := ⟨RL, "longestStretch", "(LTimesheets;I[J)I"⟩
abbrev cL_category : ByteArray := method_25_code
def yL_category : MethodName := ⟨RL, "category", "(LTimesheets;II[J)I"⟩
abbrev cL_minutes : ByteArray := method_26_code
def yL_minutes : MethodName := ⟨RL, "minutes", "(LTimesheets;III[J)I"⟩
abbrev cL_quarters : ByteArray := method_27_code
def yL_quarters : MethodName := ⟨RL, "quarters", "(LTimesheets;III[J)I"⟩
abbrev cL_premiumPay : ByteArray := method_28_code
def yL_premiumPay : MethodName := ⟨RL, "premiumPay", "(LTimesheets;I[J)I"⟩
abbrev cL_pay : ByteArray := method_29_code
def yL_pay : MethodName := ⟨RL, "pay", "(LTimesheets;I[J)I"⟩
abbrev cL_law : ByteArray := code
def yL_law : MethodName := ⟨RL, "law", "([I)Z"⟩
def wsJ9_max_7cf53 : List Cond := .code yJ9_max_7cf53 cJ9_max_7cf53 2 (some .int) :: ([])
def wsJ9_min_7cf53 : List Cond := .code yJ9_min_7cf53 cJ9_min_7cf53 2 (some .int) :: ([])
theorem inJx145de : ∀ w ∈ wsJx145de0, w ∈ lw_tbl := by decide +kernel
abbrev vwCl : List vw_C := [(RX0, TX0, 6), (RX1, TX1, 3), (RX2, TX2, 1), (RX3, TX3, 2), (RX4, TX4, 3), (RX5, TX5, 4), (RX6, TX6, 6), (RX7, TX7, 34)]
/-! ===== END printed: names ===== -/
end
section
/-! the words of the tables that are good, and each of them by name -/
def BG : List Cond := lw_tbl.filter goodWord
theorem BG_good : ∀ w ∈ BG, (w.onTables && w.keeps) = true ∨ ∃ ty, w = .arrayClass ty := fun w h => good_of_word (List.mem_filter.mp h).2
theorem BG_in : ∀ w ∈ BG, w ∈ lw_tbl := fun w h => (List.mem_filter.mp h).1
theorem bg_0 {w : Cond} (h : w ∈ k2_sels lw_privs) (g : goodWord w = true) : w ∈ BG := List.mem_filter.mpr ⟨List.mem_append_left _ h, g⟩
theorem bg_1 {w : Cond} (h : w ∈ tables_1_1) (g : goodWord w = true) : w ∈ BG := List.mem_filter.mpr ⟨List.mem_append_right _ (List.mem_append_left _ h), g⟩
theorem bg_2 {w : Cond} (h : w ∈ tables_1_2) (g : goodWord w = true) : w ∈ BG := List.mem_filter.mpr ⟨List.mem_append_right _ (List.mem_append_right _ (List.mem_append_left _ h)), g⟩
theorem bg_3 {w : Cond} (h : w ∈ tables_1_3) (g : goodWord w = true) : w ∈ BG := List.mem_filter.mpr ⟨List.mem_append_right _ (List.mem_append_right _ (List.mem_append_right _ (List.mem_append_left _ h))), g⟩
theorem bg_4 {w : Cond} (h : w ∈ tables_1_4) (g : goodWord w = true) : w ∈ BG := List.mem_filter.mpr ⟨List.mem_append_right _ (List.mem_append_right _ (List.mem_append_right _ (List.mem_append_right _ (List.mem_append_left _ h)))), g⟩
theorem bg_5 {w : Cond} (h : w ∈ tables_1_5) (g : goodWord w = true) : w ∈ BG := List.mem_filter.mpr ⟨List.mem_append_right _ (List.mem_append_right _ (List.mem_append_right _ (List.mem_append_right _ (List.mem_append_right _ h)))), g⟩
theorem kw_0 : Cond.classLink RL 8 RX6 ∈ BG := bg_1 (List.mem_of_getElem? (l := tables_1_1) (i := 17) rfl) rfl
theorem kw_1 : Cond.instantiable RX6 6 ∈ BG := bg_1 (List.mem_of_getElem? (l := tables_1_1) (i := 18) rfl) rfl
theorem kw_2 : Cond.initialized RX6 ∈ BG := bg_1 (List.mem_of_getElem? (l := tables_1_1) (i := 1) rfl) rfl
theorem kw_3 : Cond.classLink RL 106 RX7 ∈ BG := bg_3 (List.mem_of_getElem? (l := tables_1_3) (i := 218) rfl) rfl
theorem kw_4 : Cond.instantiable RX7 34 ∈ BG := bg_3 (List.mem_of_getElem? (l := tables_1_3) (i := 219) rfl) rfl
theorem kw_5 : Cond.initialized RX7 ∈ BG := bg_1 (List.mem_of_getElem? (l := tables_1_1) (i := 7) rfl) rfl
theorem kw_6 : Cond.arrayClass .long ∈ BG := bg_4 (List.mem_of_getElem? (l := tables_1_4) (i := 87) rfl) rfl
theorem kw_7 : Cond.methodLink RL 105 yX6_init ∈ BG := bg_1 (List.mem_of_getElem? (l := tables_1_1) (i := 19) rfl) rfl
theorem kw_8 : Cond.instanceMethod yX6_init ∈ BG := bg_1 (List.mem_of_getElem? (l := tables_1_1) (i := 20) rfl) rfl
theorem kw_9 : Cond.code yX6_init cX6_init 1 none ∈ BG := bg_1 (List.mem_of_getElem? (l := tables_1_1) (i := 21) rfl) rfl
theorem kw_10 : Cond.methodLink RX6 3 objectInit ∈ BG := bg_1 (List.mem_of_getElem? (l := tables_1_1) (i := 22) rfl) rfl
theorem kw_11 : Cond.instanceMethod objectInit ∈ BG := bg_1 (List.mem_of_getElem? (l := tables_1_1) (i := 23) rfl) rfl
theorem kw_12 : Cond.code objectInit ⟨#[0xb1]⟩ 1 none ∈ BG := bg_1 (List.mem_of_getElem? (l := tables_1_1) (i := 24) rfl) rfl
theorem kw_13 : Cond.classLink RX6 9 RX0 ∈ BG := bg_1 (List.mem_of_getElem? (l := tables_1_1) (i := 25) rfl) rfl
theorem kw_14 : Cond.fieldLink RX6 11 "Timesheets" "staff" "[LTimesheets$Employee;" ∈ BG := bg_1 (List.mem_of_getElem? (l := tables_1_1) (i := 118) rfl) rfl
theorem kw_15 : Cond.fieldLink RX6 15 "Timesheets" "hired" "I" ∈ BG := bg_1 (List.mem_of_getElem? (l := tables_1_1) (i := 119) rfl) rfl
theorem kw_16 : Cond.classLink RX6 19 RX2 ∈ BG := bg_1 (List.mem_of_getElem? (l := tables_1_1) (i := 27) rfl) rfl
theorem kw_17 : Cond.instantiable RX2 1 ∈ BG := bg_1 (List.mem_of_getElem? (l := tables_1_1) (i := 28) rfl) rfl
theorem kw_18 : Cond.initialized RX2 ∈ BG := bg_1 (List.mem_of_getElem? (l := tables_1_1) (i := 2) rfl) rfl
theorem kw_19 : Cond.fieldLink RX6 22 "Timesheets" "premiums" "LTimesheets$Premiums;" ∈ BG := bg_1 (List.mem_of_getElem? (l := tables_1_1) (i := 120) rfl) rfl
theorem kw_20 : Cond.classLink RX6 26 RX1 ∈ BG := bg_1 (List.mem_of_getElem? (l := tables_1_1) (i := 55) rfl) rfl
theorem kw_21 : Cond.instantiable RX1 3 ∈ BG := bg_1 (List.mem_of_getElem? (l := tables_1_1) (i := 56) rfl) rfl
theorem kw_22 : Cond.initialized RX1 ∈ BG := bg_1 (List.mem_of_getElem? (l := tables_1_1) (i := 4) rfl) rfl
theorem kw_23 : Cond.fieldLink RX6 29 "Timesheets" "payroll" "LTimesheets$Payroll;" ∈ BG := bg_1 (List.mem_of_getElem? (l := tables_1_1) (i := 121) rfl) rfl
theorem kw_24 : Cond.fieldLink RX6 37 "Timesheets" "timeline" "LTimesheets$Timeline;" ∈ BG := bg_1 (List.mem_of_getElem? (l := tables_1_1) (i := 122) rfl) rfl
theorem kw_25 : Cond.fieldLink RX6 44 "Timesheets" "shiftList" "LTimesheets$Shifts;" ∈ BG := bg_1 (List.mem_of_getElem? (l := tables_1_1) (i := 123) rfl) rfl
theorem kw_26 : Cond.methodLink RX6 21 yX2_init ∈ BG := bg_1 (List.mem_of_getElem? (l := tables_1_1) (i := 29) rfl) rfl
theorem kw_27 : Cond.instanceMethod yX2_init ∈ BG := bg_1 (List.mem_of_getElem? (l := tables_1_1) (i := 30) rfl) rfl
theorem kw_28 : Cond.code yX2_init cX2_init 1 none ∈ BG := bg_1 (List.mem_of_getElem? (l := tables_1_1) (i := 31) rfl) rfl
theorem kw_29 : Cond.methodLink RX2 3 objectInit ∈ BG := bg_1 (List.mem_of_getElem? (l := tables_1_1) (i := 32) rfl) rfl
theorem kw_30 : Cond.classLink RX2 9 RX4 ∈ BG := bg_1 (List.mem_of_getElem? (l := tables_1_1) (i := 33) rfl) rfl
theorem kw_31 : Cond.instantiable RX4 3 ∈ BG := bg_1 (List.mem_of_getElem? (l := tables_1_1) (i := 34) rfl) rfl
theorem kw_32 : Cond.initialized RX4 ∈ BG := bg_1 (List.mem_of_getElem? (l := tables_1_1) (i := 3) rfl) rfl
theorem kw_33 : Cond.fieldLink RX2 14 "Timesheets$Premiums" "rows" "LTimesheets$Table;" ∈ BG := bg_1 (List.mem_of_getElem? (l := tables_1_1) (i := 50) rfl) rfl
theorem kw_34 : Cond.methodLink RX2 11 yX4_init ∈ BG := bg_1 (List.mem_of_getElem? (l := tables_1_1) (i := 35) rfl) rfl
theorem kw_35 : Cond.instanceMethod yX4_init ∈ BG := bg_1 (List.mem_of_getElem? (l := tables_1_1) (i := 36) rfl) rfl
theorem kw_36 : Cond.code yX4_init cX4_init 3 none ∈ BG := bg_1 (List.mem_of_getElem? (l := tables_1_1) (i := 37) rfl) rfl
theorem kw_37 : Cond.methodLink RX4 3 objectInit ∈ BG := bg_1 (List.mem_of_getElem? (l := tables_1_1) (i := 38) rfl) rfl
theorem kw_38 : Cond.fieldLink RX4 9 "Timesheets$Table" "width" "I" ∈ BG := bg_1 (List.mem_of_getElem? (l := tables_1_1) (i := 39) rfl) rfl
theorem kw_39 : Cond.arrayClass .int ∈ BG := bg_1 (List.mem_of_getElem? (l := tables_1_1) (i := 49) rfl) rfl
theorem kw_40 : Cond.fieldLink RX4 15 "Timesheets$Table" "cells" "[I" ∈ BG := bg_1 (List.mem_of_getElem? (l := tables_1_1) (i := 40) rfl) rfl
theorem kw_41 : Cond.fieldLink RX4 19 "Timesheets$Table" "rows" "I" ∈ BG := bg_1 (List.mem_of_getElem? (l := tables_1_1) (i := 41) rfl) rfl
theorem kw_42 : Cond.methodLink RX6 28 yX1_init ∈ BG := bg_1 (List.mem_of_getElem? (l := tables_1_1) (i := 57) rfl) rfl
theorem kw_43 : Cond.instanceMethod yX1_init ∈ BG := bg_1 (List.mem_of_getElem? (l := tables_1_1) (i := 58) rfl) rfl
theorem kw_44 : Cond.code yX1_init cX1_init 1 none ∈ BG := bg_1 (List.mem_of_getElem? (l := tables_1_1) (i := 59) rfl) rfl
theorem kw_45 : Cond.methodLink RX1 3 objectInit ∈ BG := bg_1 (List.mem_of_getElem? (l := tables_1_1) (i := 60) rfl) rfl
theorem kw_46 : Cond.classLink RX1 9 RX5 ∈ BG := bg_1 (List.mem_of_getElem? (l := tables_1_1) (i := 61) rfl) rfl
theorem kw_47 : Cond.instantiable RX5 4 ∈ BG := bg_1 (List.mem_of_getElem? (l := tables_1_1) (i := 62) rfl) rfl
theorem kw_48 : Cond.initialized RX5 ∈ BG := bg_1 (List.mem_of_getElem? (l := tables_1_1) (i := 5) rfl) rfl
theorem kw_49 : Cond.fieldLink RX1 12 "Timesheets$Payroll" "timeline" "LTimesheets$Timeline;" ∈ BG := bg_1 (List.mem_of_getElem? (l := tables_1_1) (i := 106) rfl) rfl
theorem kw_50 : Cond.classLink RX1 18 RX4 ∈ BG := bg_1 (List.mem_of_getElem? (l := tables_1_1) (i := 104) rfl) rfl
theorem kw_51 : Cond.fieldLink RX1 23 "Timesheets$Payroll" "paid" "LTimesheets$Table;" ∈ BG := bg_1 (List.mem_of_getElem? (l := tables_1_1) (i := 108) rfl) rfl
theorem kw_52 : Cond.fieldLink RX1 27 "Timesheets$Payroll" "parts" "LTimesheets$Table;" ∈ BG := bg_1 (List.mem_of_getElem? (l := tables_1_1) (i := 109) rfl) rfl
theorem kw_53 : Cond.methodLink RX1 11 yX5_init ∈ BG := bg_1 (List.mem_of_getElem? (l := tables_1_1) (i := 63) rfl) rfl
theorem kw_54 : Cond.instanceMethod yX5_init ∈ BG := bg_1 (List.mem_of_getElem? (l := tables_1_1) (i := 64) rfl) rfl
theorem kw_55 : Cond.code yX5_init cX5_init 1 none ∈ BG := bg_1 (List.mem_of_getElem? (l := tables_1_1) (i := 65) rfl) rfl
theorem kw_56 : Cond.methodLink RX5 3 objectInit ∈ BG := bg_1 (List.mem_of_getElem? (l := tables_1_1) (i := 66) rfl) rfl
theorem kw_57 : Cond.classLink RX5 9 RX3 ∈ BG := bg_1 (List.mem_of_getElem? (l := tables_1_1) (i := 67) rfl) rfl
theorem kw_58 : Cond.instantiable RX3 2 ∈ BG := bg_1 (List.mem_of_getElem? (l := tables_1_1) (i := 68) rfl) rfl
theorem kw_59 : Cond.initialized RX3 ∈ BG := bg_1 (List.mem_of_getElem? (l := tables_1_1) (i := 6) rfl) rfl
theorem kw_60 : Cond.fieldLink RX5 12 "Timesheets$Timeline" "shiftList" "LTimesheets$Shifts;" ∈ BG := bg_1 (List.mem_of_getElem? (l := tables_1_1) (i := 87) rfl) rfl
theorem kw_61 : Cond.classLink RX5 18 RX4 ∈ BG := bg_1 (List.mem_of_getElem? (l := tables_1_1) (i := 85) rfl) rfl
theorem kw_62 : Cond.fieldLink RX5 23 "Timesheets$Timeline" "events" "LTimesheets$Table;" ∈ BG := bg_1 (List.mem_of_getElem? (l := tables_1_1) (i := 89) rfl) rfl
theorem kw_63 : Cond.fieldLink RX5 27 "Timesheets$Timeline" "stretchList" "LTimesheets$Table;" ∈ BG := bg_1 (List.mem_of_getElem? (l := tables_1_1) (i := 90) rfl) rfl
theorem kw_64 : Cond.fieldLink RX5 30 "Timesheets$Timeline" "coveredTwice" "I" ∈ BG := bg_1 (List.mem_of_getElem? (l := tables_1_1) (i := 93) rfl) rfl
theorem kw_65 : Cond.methodLink RX5 11 yX3_init ∈ BG := bg_1 (List.mem_of_getElem? (l := tables_1_1) (i := 69) rfl) rfl
theorem kw_66 : Cond.instanceMethod yX3_init ∈ BG := bg_1 (List.mem_of_getElem? (l := tables_1_1) (i := 70) rfl) rfl
theorem kw_67 : Cond.code yX3_init cX3_init 1 none ∈ BG := bg_1 (List.mem_of_getElem? (l := tables_1_1) (i := 71) rfl) rfl
theorem kw_68 : Cond.methodLink RX3 3 objectInit ∈ BG := bg_1 (List.mem_of_getElem? (l := tables_1_1) (i := 72) rfl) rfl
theorem kw_69 : Cond.classLink RX3 9 RX4 ∈ BG := bg_1 (List.mem_of_getElem? (l := tables_1_1) (i := 73) rfl) rfl
theorem kw_70 : Cond.fieldLink RX3 14 "Timesheets$Shifts" "spans" "LTimesheets$Table;" ∈ BG := bg_1 (List.mem_of_getElem? (l := tables_1_1) (i := 75) rfl) rfl
theorem kw_71 : Cond.fieldLink RX3 20 "Timesheets$Shifts" "repaired" "I" ∈ BG := bg_1 (List.mem_of_getElem? (l := tables_1_1) (i := 78) rfl) rfl
theorem kw_72 : Cond.methodLink RX3 11 yX4_init ∈ BG := bg_1 (List.mem_of_getElem? (l := tables_1_1) (i := 74) rfl) rfl
theorem kw_73 : Cond.methodLink RX5 20 yX4_init ∈ BG := bg_1 (List.mem_of_getElem? (l := tables_1_1) (i := 86) rfl) rfl
theorem kw_74 : Cond.methodLink RX1 20 yX4_init ∈ BG := bg_1 (List.mem_of_getElem? (l := tables_1_1) (i := 105) rfl) rfl
theorem kw_75 : Cond.methodLink RL 108 yX7_init ∈ BG := bg_3 (List.mem_of_getElem? (l := tables_1_3) (i := 220) rfl) rfl
theorem kw_76 : Cond.instanceMethod yX7_init ∈ BG := bg_3 (List.mem_of_getElem? (l := tables_1_3) (i := 221) rfl) rfl
theorem kw_77 : Cond.code yX7_init cX7_init 1 none ∈ BG := bg_3 (List.mem_of_getElem? (l := tables_1_3) (i := 222) rfl) rfl
theorem kw_78 : Cond.methodLink RX7 1 objectInit ∈ BG := bg_3 (List.mem_of_getElem? (l := tables_1_3) (i := 223) rfl) rfl
theorem kw_79 : Cond.fieldLink RX7 7 "TimesheetsModel" "wages" "[I" ∈ BG := bg_3 (List.mem_of_getElem? (l := tables_1_3) (i := 226) rfl) rfl
theorem kw_80 : Cond.fieldLink RX7 13 "TimesheetsModel" "closed" "[I" ∈ BG := bg_3 (List.mem_of_getElem? (l := tables_1_3) (i := 227) rfl) rfl
theorem kw_81 : Cond.fieldLink RX7 16 "TimesheetsModel" "gained" "[J" ∈ BG := bg_3 (List.mem_of_getElem? (l := tables_1_3) (i := 228) rfl) rfl
theorem kw_82 : Cond.fieldLink RX7 20 "TimesheetsModel" "punchMany" "[I" ∈ BG := bg_3 (List.mem_of_getElem? (l := tables_1_3) (i := 229) rfl) rfl
theorem kw_83 : Cond.fieldLink RX7 23 "TimesheetsModel" "punchTime" "[I" ∈ BG := bg_3 (List.mem_of_getElem? (l := tables_1_3) (i := 230) rfl) rfl
theorem kw_84 : Cond.arrayClass .boolean ∈ BG := bg_4 (List.mem_of_getElem? (l := tables_1_4) (i := 88) rfl) rfl
theorem kw_85 : Cond.fieldLink RX7 26 "TimesheetsModel" "isIn" "[Z" ∈ BG := bg_3 (List.mem_of_getElem? (l := tables_1_3) (i := 231) rfl) rfl
theorem kw_86 : Cond.fieldLink RX7 30 "TimesheetsModel" "entryMany" "[I" ∈ BG := bg_3 (List.mem_of_getElem? (l := tables_1_3) (i := 232) rfl) rfl
theorem kw_87 : Cond.fieldLink RX7 33 "TimesheetsModel" "entryFrom" "[I" ∈ BG := bg_3 (List.mem_of_getElem? (l := tables_1_3) (i := 233) rfl) rfl
theorem kw_88 : Cond.fieldLink RX7 36 "TimesheetsModel" "entryTo" "[I" ∈ BG := bg_3 (List.mem_of_getElem? (l := tables_1_3) (i := 234) rfl) rfl
theorem kw_89 : Cond.fieldLink RX7 39 "TimesheetsModel" "breakMany" "[I" ∈ BG := bg_3 (List.mem_of_getElem? (l := tables_1_3) (i := 235) rfl) rfl
theorem kw_90 : Cond.fieldLink RX7 42 "TimesheetsModel" "breakFrom" "[I" ∈ BG := bg_3 (List.mem_of_getElem? (l := tables_1_3) (i := 236) rfl) rfl
theorem kw_91 : Cond.fieldLink RX7 45 "TimesheetsModel" "breakTo" "[I" ∈ BG := bg_3 (List.mem_of_getElem? (l := tables_1_3) (i := 237) rfl) rfl
theorem kw_92 : Cond.fieldLink RX7 48 "TimesheetsModel" "rateDays" "[I" ∈ BG := bg_3 (List.mem_of_getElem? (l := tables_1_3) (i := 239) rfl) rfl
theorem kw_93 : Cond.fieldLink RX7 51 "TimesheetsModel" "rateFrom" "[I" ∈ BG := bg_4 (List.mem_of_getElem? (l := tables_1_4) (i := 0) rfl) rfl
theorem kw_94 : Cond.fieldLink RX7 54 "TimesheetsModel" "rateTo" "[I" ∈ BG := bg_4 (List.mem_of_getElem? (l := tables_1_4) (i := 1) rfl) rfl
theorem kw_95 : Cond.fieldLink RX7 57 "TimesheetsModel" "rates" "[I" ∈ BG := bg_4 (List.mem_of_getElem? (l := tables_1_4) (i := 2) rfl) rfl
theorem kw_96 : Cond.fieldLink RX7 60 "TimesheetsModel" "begins" "[I" ∈ BG := bg_4 (List.mem_of_getElem? (l := tables_1_4) (i := 5) rfl) rfl
theorem kw_97 : Cond.fieldLink RX7 63 "TimesheetsModel" "ends" "[I" ∈ BG := bg_4 (List.mem_of_getElem? (l := tables_1_4) (i := 6) rfl) rfl
theorem kw_98 : Cond.fieldLink RX7 66 "TimesheetsModel" "cover" "[I" ∈ BG := bg_4 (List.mem_of_getElem? (l := tables_1_4) (i := 7) rfl) rfl
theorem kw_99 : Cond.fieldLink RX7 69 "TimesheetsModel" "rest" "[I" ∈ BG := bg_4 (List.mem_of_getElem? (l := tables_1_4) (i := 8) rfl) rfl
theorem kw_100 : Cond.fieldLink RX7 72 "TimesheetsModel" "kind" "[I" ∈ BG := bg_4 (List.mem_of_getElem? (l := tables_1_4) (i := 9) rfl) rfl
theorem kw_101 : Cond.fieldLink RX7 75 "TimesheetsModel" "worked" "[I" ∈ BG := bg_4 (List.mem_of_getElem? (l := tables_1_4) (i := 10) rfl) rfl
theorem kw_102 : Cond.fieldLink RX7 78 "TimesheetsModel" "paid" "[I" ∈ BG := bg_4 (List.mem_of_getElem? (l := tables_1_4) (i := 11) rfl) rfl
theorem kw_103 : Cond.fieldLink RX7 81 "TimesheetsModel" "sums" "[I" ∈ BG := bg_4 (List.mem_of_getElem? (l := tables_1_4) (i := 12) rfl) rfl
theorem kw_104 : Cond.fieldLink RX7 84 "TimesheetsModel" "shares" "[I" ∈ BG := bg_4 (List.mem_of_getElem? (l := tables_1_4) (i := 13) rfl) rfl
theorem kw_105 : Cond.fieldLink RX7 87 "TimesheetsModel" "weekShares" "[I" ∈ BG := bg_4 (List.mem_of_getElem? (l := tables_1_4) (i := 14) rfl) rfl
theorem kw_106 : Cond.fieldLink RX7 90 "TimesheetsModel" "thrown" "I" ∈ BG := bg_3 (List.mem_of_getElem? (l := tables_1_3) (i := 224) rfl) rfl
theorem kw_107 : Cond.methodLink RL 109 yL_hire ∈ BG := bg_1 (List.mem_of_getElem? (l := tables_1_1) (i := 141) rfl) rfl
theorem kw_108 : Cond.static yL_hire ∈ BG := bg_1 (List.mem_of_getElem? (l := tables_1_1) (i := 142) rfl) rfl
theorem kw_109 : Cond.initialized RL ∈ BG := bg_1 (List.mem_of_getElem? (l := tables_1_1) (i := 0) rfl) rfl
theorem kw_110 : Cond.codeWith yL_hire cL_hire 4 (some .int) [(0, 9, 12, 13), (0, 9, 15, 15)] ∈ BG := bg_1 (List.mem_of_getElem? (l := tables_1_1) (i := 143) rfl) rfl
theorem kw_111 : Cond.classLink RL 13 "java/lang/IllegalArgumentException" ∈ BG := bg_1 (List.mem_of_getElem? (l := tables_1_1) (i := 144) rfl) rfl
theorem kw_112 : Cond.classLink RL 15 "java/lang/IllegalStateException" ∈ BG := bg_1 (List.mem_of_getElem? (l := tables_1_1) (i := 145) rfl) rfl
theorem kw_113 : Cond.methodLink RL 7 yX6_hire ∈ BG := bg_1 (List.mem_of_getElem? (l := tables_1_1) (i := 146) rfl) rfl
theorem kw_114 : Cond.instanceMethod yX6_hire ∈ BG := bg_1 (List.mem_of_getElem? (l := tables_1_1) (i := 147) rfl) rfl
theorem kw_115 : Cond.selects RX6 yX6_hire yX6_hire ∈ BG := bg_1 (List.mem_of_getElem? (l := tables_1_1) (i := 148) rfl) rfl
theorem kw_116 : Cond.code yX6_hire cX6_hire 3 (some .int) ∈ BG := bg_1 (List.mem_of_getElem? (l := tables_1_1) (i := 149) rfl) rfl
theorem kw_117 : Cond.classLink RX6 50 "java/lang/IllegalStateException" ∈ BG := bg_1 (List.mem_of_getElem? (l := tables_1_1) (i := 223) rfl) rfl
theorem kw_118 : Cond.initialized "java/lang/IllegalStateException" ∈ BG := bg_1 (List.mem_of_getElem? (l := tables_1_1) (i := 12) rfl) rfl
theorem kw_119 : Cond.constant RX6 45 (100000) ∈ BG := bg_1 (List.mem_of_getElem? (l := tables_1_1) (i := 150) rfl) rfl
theorem kw_120 : Cond.instantiable RX0 6 ∈ BG := bg_1 (List.mem_of_getElem? (l := tables_1_1) (i := 239) rfl) rfl
theorem kw_121 : Cond.initialized RX0 ∈ BG := bg_1 (List.mem_of_getElem? (l := tables_1_1) (i := 13) rfl) rfl
theorem kw_122 : Cond.methodLink RX6 46 yX6_requireWithin ∈ BG := bg_1 (List.mem_of_getElem? (l := tables_1_1) (i := 151) rfl) rfl
theorem kw_123 : Cond.static yX6_requireWithin ∈ BG := bg_1 (List.mem_of_getElem? (l := tables_1_1) (i := 152) rfl) rfl
theorem kw_124 : Cond.code yX6_requireWithin cX6_requireWithin 3 none ∈ BG := bg_1 (List.mem_of_getElem? (l := tables_1_1) (i := 153) rfl) rfl
theorem kw_125 : Cond.classLink RX6 200 "java/lang/IllegalArgumentException" ∈ BG := bg_1 (List.mem_of_getElem? (l := tables_1_1) (i := 154) rfl) rfl
theorem kw_126 : Cond.initialized "java/lang/IllegalArgumentException" ∈ BG := bg_1 (List.mem_of_getElem? (l := tables_1_1) (i := 11) rfl) rfl
theorem kw_127 : Cond.methodLink RX6 57 yX0_init ∈ BG := bg_2 (List.mem_of_getElem? (l := tables_1_2) (i := 0) rfl) rfl
theorem kw_128 : Cond.instanceMethod yX0_init ∈ BG := bg_2 (List.mem_of_getElem? (l := tables_1_2) (i := 1) rfl) rfl
theorem kw_129 : Cond.code yX0_init cX0_init 2 none ∈ BG := bg_2 (List.mem_of_getElem? (l := tables_1_2) (i := 2) rfl) rfl
theorem kw_130 : Cond.methodLink RX0 3 objectInit ∈ BG := bg_2 (List.mem_of_getElem? (l := tables_1_2) (i := 3) rfl) rfl
theorem kw_131 : Cond.fieldLink RX0 9 "Timesheets$Employee" "wage" "I" ∈ BG := bg_2 (List.mem_of_getElem? (l := tables_1_2) (i := 6) rfl) rfl
theorem kw_132 : Cond.fieldLink RX0 15 "Timesheets$Employee" "weeksClosed" "I" ∈ BG := bg_2 (List.mem_of_getElem? (l := tables_1_2) (i := 8) rfl) rfl
theorem kw_133 : Cond.fieldLink RX0 18 "Timesheets$Employee" "earnings" "J" ∈ BG := bg_2 (List.mem_of_getElem? (l := tables_1_2) (i := 10) rfl) rfl
theorem kw_134 : Cond.classLink RX0 22 RX4 ∈ BG := bg_2 (List.mem_of_getElem? (l := tables_1_2) (i := 4) rfl) rfl
theorem kw_135 : Cond.fieldLink RX0 27 "Timesheets$Employee" "punches" "LTimesheets$Table;" ∈ BG := bg_2 (List.mem_of_getElem? (l := tables_1_2) (i := 12) rfl) rfl
theorem kw_136 : Cond.fieldLink RX0 31 "Timesheets$Employee" "entries" "LTimesheets$Table;" ∈ BG := bg_2 (List.mem_of_getElem? (l := tables_1_2) (i := 15) rfl) rfl
theorem kw_137 : Cond.fieldLink RX0 34 "Timesheets$Employee" "breaks" "LTimesheets$Table;" ∈ BG := bg_2 (List.mem_of_getElem? (l := tables_1_2) (i := 18) rfl) rfl
theorem kw_138 : Cond.methodLink RX0 24 yX4_init ∈ BG := bg_2 (List.mem_of_getElem? (l := tables_1_2) (i := 5) rfl) rfl
theorem kw_139 : Cond.methodLink RL 114 yX7_hire ∈ BG := bg_4 (List.mem_of_getElem? (l := tables_1_4) (i := 93) rfl) rfl
theorem kw_140 : Cond.instanceMethod yX7_hire ∈ BG := bg_4 (List.mem_of_getElem? (l := tables_1_4) (i := 94) rfl) rfl
theorem kw_141 : Cond.selects RX7 yX7_hire yX7_hire ∈ BG := bg_4 (List.mem_of_getElem? (l := tables_1_4) (i := 95) rfl) rfl
theorem kw_142 : Cond.code yX7_hire cX7_hire 2 (some .int) ∈ BG := bg_4 (List.mem_of_getElem? (l := tables_1_4) (i := 96) rfl) rfl
theorem kw_143 : Cond.constant RX7 101 (100000) ∈ BG := bg_4 (List.mem_of_getElem? (l := tables_1_4) (i := 97) rfl) rfl
theorem kw_144 : Cond.fieldLink RX7 94 "TimesheetsModel" "many" "I" ∈ BG := bg_3 (List.mem_of_getElem? (l := tables_1_3) (i := 225) rfl) rfl
theorem kw_145 : Cond.methodLink RX7 97 yX7_in ∈ BG := bg_4 (List.mem_of_getElem? (l := tables_1_4) (i := 98) rfl) rfl
theorem kw_146 : Cond.static yX7_in ∈ BG := bg_4 (List.mem_of_getElem? (l := tables_1_4) (i := 99) rfl) rfl
theorem kw_147 : Cond.code yX7_in cX7_in 3 (some .boolean) ∈ BG := bg_4 (List.mem_of_getElem? (l := tables_1_4) (i := 100) rfl) rfl
theorem kw_148 : Cond.methodLink RL 115 yX7_thrown ∈ BG := bg_4 (List.mem_of_getElem? (l := tables_1_4) (i := 89) rfl) rfl
theorem kw_149 : Cond.instanceMethod yX7_thrown ∈ BG := bg_4 (List.mem_of_getElem? (l := tables_1_4) (i := 90) rfl) rfl
theorem kw_150 : Cond.selects RX7 yX7_thrown yX7_thrown ∈ BG := bg_4 (List.mem_of_getElem? (l := tables_1_4) (i := 91) rfl) rfl
theorem kw_151 : Cond.code yX7_thrown cX7_thrown 1 (some .int) ∈ BG := bg_4 (List.mem_of_getElem? (l := tables_1_4) (i := 92) rfl) rfl
theorem kw_152 : Cond.methodLink RL 119 yL_setWage ∈ BG := bg_2 (List.mem_of_getElem? (l := tables_1_2) (i := 34) rfl) rfl
theorem kw_153 : Cond.static yL_setWage ∈ BG := bg_2 (List.mem_of_getElem? (l := tables_1_2) (i := 35) rfl) rfl
theorem kw_154 : Cond.codeWith yL_setWage cL_setWage 5 (some .int) [(0, 10, 13, 21), (0, 10, 17, 13)] ∈ BG := bg_2 (List.mem_of_getElem? (l := tables_1_2) (i := 36) rfl) rfl
theorem kw_155 : Cond.classLink RL 21 "java/lang/IndexOutOfBoundsException" ∈ BG := bg_2 (List.mem_of_getElem? (l := tables_1_2) (i := 37) rfl) rfl
theorem kw_156 : Cond.methodLink RL 17 yX6_setWage ∈ BG := bg_2 (List.mem_of_getElem? (l := tables_1_2) (i := 38) rfl) rfl
theorem kw_157 : Cond.instanceMethod yX6_setWage ∈ BG := bg_2 (List.mem_of_getElem? (l := tables_1_2) (i := 39) rfl) rfl
theorem kw_158 : Cond.selects RX6 yX6_setWage yX6_setWage ∈ BG := bg_2 (List.mem_of_getElem? (l := tables_1_2) (i := 40) rfl) rfl
theorem kw_159 : Cond.code yX6_setWage cX6_setWage 5 (some .int) ∈ BG := bg_2 (List.mem_of_getElem? (l := tables_1_2) (i := 41) rfl) rfl
theorem kw_160 : Cond.methodLink RX6 60 yX6_find ∈ BG := bg_2 (List.mem_of_getElem? (l := tables_1_2) (i := 42) rfl) rfl
theorem kw_161 : Cond.instanceMethod yX6_find ∈ BG := bg_2 (List.mem_of_getElem? (l := tables_1_2) (i := 44) rfl) rfl
theorem kw_162 : Cond.selects RX6 yX6_find yX6_find ∈ BG := bg_0 (List.mem_of_getElem? (l := k2_sels lw_privs) (i := 1) rfl) rfl
theorem kw_163 : Cond.code yX6_find cX6_find 3 (some (.object "Timesheets$Employee")) ∈ BG := bg_2 (List.mem_of_getElem? (l := tables_1_2) (i := 45) rfl) rfl
theorem kw_164 : Cond.classLink RX6 195 "java/lang/IndexOutOfBoundsException" ∈ BG := bg_2 (List.mem_of_getElem? (l := tables_1_2) (i := 46) rfl) rfl
theorem kw_165 : Cond.initialized "java/lang/IndexOutOfBoundsException" ∈ BG := bg_1 (List.mem_of_getElem? (l := tables_1_1) (i := 14) rfl) rfl
theorem kw_166 : Cond.methodLink RL 122 yX7_setWage ∈ BG := bg_4 (List.mem_of_getElem? (l := tables_1_4) (i := 101) rfl) rfl
theorem kw_167 : Cond.instanceMethod yX7_setWage ∈ BG := bg_4 (List.mem_of_getElem? (l := tables_1_4) (i := 102) rfl) rfl
theorem kw_168 : Cond.selects RX7 yX7_setWage yX7_setWage ∈ BG := bg_4 (List.mem_of_getElem? (l := tables_1_4) (i := 103) rfl) rfl
theorem kw_169 : Cond.code yX7_setWage cX7_setWage 4 (some .int) ∈ BG := bg_4 (List.mem_of_getElem? (l := tables_1_4) (i := 104) rfl) rfl
theorem kw_170 : Cond.methodLink RX7 102 yX7_isOne ∈ BG := bg_4 (List.mem_of_getElem? (l := tables_1_4) (i := 105) rfl) rfl
theorem kw_171 : Cond.instanceMethod yX7_isOne ∈ BG := bg_4 (List.mem_of_getElem? (l := tables_1_4) (i := 107) rfl) rfl
theorem kw_172 : Cond.selects RX7 yX7_isOne yX7_isOne ∈ BG := bg_0 (List.mem_of_getElem? (l := k2_sels lw_privs) (i := 16) rfl) rfl
theorem kw_173 : Cond.code yX7_isOne cX7_isOne 2 (some .boolean) ∈ BG := bg_4 (List.mem_of_getElem? (l := tables_1_4) (i := 108) rfl) rfl
theorem kw_174 : Cond.methodLink RL 123 yL_punch ∈ BG := bg_2 (List.mem_of_getElem? (l := tables_1_2) (i := 62) rfl) rfl
theorem kw_175 : Cond.static yL_punch ∈ BG := bg_2 (List.mem_of_getElem? (l := tables_1_2) (i := 63) rfl) rfl
theorem kw_176 : Cond.codeWith yL_punch cL_punch 6 (some .int) [(0, 12, 15, 21), (0, 12, 19, 13), (0, 12, 23, 15)] ∈ BG := bg_2 (List.mem_of_getElem? (l := tables_1_2) (i := 64) rfl) rfl
theorem kw_177 : Cond.methodLink RL 23 yX6_punch ∈ BG := bg_2 (List.mem_of_getElem? (l := tables_1_2) (i := 65) rfl) rfl
theorem kw_178 : Cond.instanceMethod yX6_punch ∈ BG := bg_2 (List.mem_of_getElem? (l := tables_1_2) (i := 66) rfl) rfl
theorem kw_179 : Cond.selects RX6 yX6_punch yX6_punch ∈ BG := bg_2 (List.mem_of_getElem? (l := tables_1_2) (i := 67) rfl) rfl
theorem kw_180 : Cond.code yX6_punch cX6_punch 6 (some .int) ∈ BG := bg_2 (List.mem_of_getElem? (l := tables_1_2) (i := 68) rfl) rfl
theorem kw_181 : Cond.methodLink RX6 71 yX6_requireRoom ∈ BG := bg_2 (List.mem_of_getElem? (l := tables_1_2) (i := 69) rfl) rfl
theorem kw_182 : Cond.static yX6_requireRoom ∈ BG := bg_2 (List.mem_of_getElem? (l := tables_1_2) (i := 70) rfl) rfl
theorem kw_183 : Cond.code yX6_requireRoom cX6_requireRoom 2 none ∈ BG := bg_2 (List.mem_of_getElem? (l := tables_1_2) (i := 71) rfl) rfl
theorem kw_184 : Cond.methodLink RX6 93 yX4_size ∈ BG := bg_2 (List.mem_of_getElem? (l := tables_1_2) (i := 72) rfl) rfl
theorem kw_185 : Cond.instanceMethod yX4_size ∈ BG := bg_2 (List.mem_of_getElem? (l := tables_1_2) (i := 73) rfl) rfl
theorem kw_186 : Cond.selects RX4 yX4_size yX4_size ∈ BG := bg_2 (List.mem_of_getElem? (l := tables_1_2) (i := 74) rfl) rfl
theorem kw_187 : Cond.code yX4_size cX4_size 1 (some .int) ∈ BG := bg_2 (List.mem_of_getElem? (l := tables_1_2) (i := 75) rfl) rfl
theorem kw_188 : Cond.methodLink RX6 75 yX6_placeOfPunch ∈ BG := bg_2 (List.mem_of_getElem? (l := tables_1_2) (i := 77) rfl) rfl
theorem kw_189 : Cond.static yX6_placeOfPunch ∈ BG := bg_2 (List.mem_of_getElem? (l := tables_1_2) (i := 78) rfl) rfl
theorem kw_190 : Cond.code yX6_placeOfPunch cX6_placeOfPunch 4 (some .int) ∈ BG := bg_2 (List.mem_of_getElem? (l := tables_1_2) (i := 79) rfl) rfl
theorem kw_191 : Cond.methodLink RX6 102 yX4_get ∈ BG := bg_2 (List.mem_of_getElem? (l := tables_1_2) (i := 80) rfl) rfl
theorem kw_192 : Cond.instanceMethod yX4_get ∈ BG := bg_2 (List.mem_of_getElem? (l := tables_1_2) (i := 81) rfl) rfl
theorem kw_193 : Cond.selects RX4 yX4_get yX4_get ∈ BG := bg_2 (List.mem_of_getElem? (l := tables_1_2) (i := 82) rfl) rfl
theorem kw_194 : Cond.code yX4_get cX4_get 4 (some .int) ∈ BG := bg_2 (List.mem_of_getElem? (l := tables_1_2) (i := 83) rfl) rfl
theorem kw_195 : Cond.methodLink RX6 79 yX6_isPunchAt ∈ BG := bg_2 (List.mem_of_getElem? (l := tables_1_2) (i := 84) rfl) rfl
theorem kw_196 : Cond.static yX6_isPunchAt ∈ BG := bg_2 (List.mem_of_getElem? (l := tables_1_2) (i := 85) rfl) rfl
theorem kw_197 : Cond.code yX6_isPunchAt cX6_isPunchAt 3 (some .boolean) ∈ BG := bg_2 (List.mem_of_getElem? (l := tables_1_2) (i := 86) rfl) rfl
theorem kw_198 : Cond.methodLink RX6 85 yX4_insert ∈ BG := bg_2 (List.mem_of_getElem? (l := tables_1_2) (i := 88) rfl) rfl
theorem kw_199 : Cond.instanceMethod yX4_insert ∈ BG := bg_2 (List.mem_of_getElem? (l := tables_1_2) (i := 89) rfl) rfl
theorem kw_200 : Cond.selects RX4 yX4_insert yX4_insert ∈ BG := bg_2 (List.mem_of_getElem? (l := tables_1_2) (i := 90) rfl) rfl
theorem kw_201 : Cond.code yX4_insert cX4_insert 3 none ∈ BG := bg_2 (List.mem_of_getElem? (l := tables_1_2) (i := 91) rfl) rfl
theorem kw_202 : Cond.methodLink RX6 90 yX4_set ∈ BG := bg_2 (List.mem_of_getElem? (l := tables_1_2) (i := 92) rfl) rfl
theorem kw_203 : Cond.instanceMethod yX4_set ∈ BG := bg_2 (List.mem_of_getElem? (l := tables_1_2) (i := 93) rfl) rfl
theorem kw_204 : Cond.selects RX4 yX4_set yX4_set ∈ BG := bg_2 (List.mem_of_getElem? (l := tables_1_2) (i := 94) rfl) rfl
theorem kw_205 : Cond.code yX4_set cX4_set 5 none ∈ BG := bg_2 (List.mem_of_getElem? (l := tables_1_2) (i := 95) rfl) rfl
theorem kw_206 : Cond.methodLink RL 126 yX7_punch ∈ BG := bg_4 (List.mem_of_getElem? (l := tables_1_4) (i := 109) rfl) rfl
theorem kw_207 : Cond.instanceMethod yX7_punch ∈ BG := bg_4 (List.mem_of_getElem? (l := tables_1_4) (i := 110) rfl) rfl
theorem kw_208 : Cond.selects RX7 yX7_punch yX7_punch ∈ BG := bg_4 (List.mem_of_getElem? (l := tables_1_4) (i := 111) rfl) rfl
theorem kw_209 : Cond.code yX7_punch cX7_punch 6 (some .int) ∈ BG := bg_4 (List.mem_of_getElem? (l := tables_1_4) (i := 112) rfl) rfl
theorem kw_210 : Cond.methodLink RX7 110 yX7_hasPunch ∈ BG := bg_4 (List.mem_of_getElem? (l := tables_1_4) (i := 113) rfl) rfl
theorem kw_211 : Cond.instanceMethod yX7_hasPunch ∈ BG := bg_4 (List.mem_of_getElem? (l := tables_1_4) (i := 115) rfl) rfl
theorem kw_212 : Cond.selects RX7 yX7_hasPunch yX7_hasPunch ∈ BG := bg_0 (List.mem_of_getElem? (l := k2_sels lw_privs) (i := 17) rfl) rfl
theorem kw_213 : Cond.code yX7_hasPunch cX7_hasPunch 4 (some .boolean) ∈ BG := bg_4 (List.mem_of_getElem? (l := tables_1_4) (i := 116) rfl) rfl
theorem kw_214 : Cond.methodLink RX7 106 yX7_placeOf ∈ BG := bg_4 (List.mem_of_getElem? (l := tables_1_4) (i := 117) rfl) rfl
theorem kw_215 : Cond.instanceMethod yX7_placeOf ∈ BG := bg_4 (List.mem_of_getElem? (l := tables_1_4) (i := 119) rfl) rfl
theorem kw_216 : Cond.selects RX7 yX7_placeOf yX7_placeOf ∈ BG := bg_0 (List.mem_of_getElem? (l := k2_sels lw_privs) (i := 18) rfl) rfl
theorem kw_217 : Cond.code yX7_placeOf cX7_placeOf 4 (some .int) ∈ BG := bg_4 (List.mem_of_getElem? (l := tables_1_4) (i := 120) rfl) rfl
theorem kw_218 : Cond.methodLink RL 127 yL_removePunch ∈ BG := bg_2 (List.mem_of_getElem? (l := tables_1_2) (i := 96) rfl) rfl
theorem kw_219 : Cond.static yL_removePunch ∈ BG := bg_2 (List.mem_of_getElem? (l := tables_1_2) (i := 97) rfl) rfl
theorem kw_220 : Cond.codeWith yL_removePunch cL_removePunch 5 (some .int) [(0, 17, 20, 21), (0, 17, 24, 31)] ∈ BG := bg_2 (List.mem_of_getElem? (l := tables_1_2) (i := 98) rfl) rfl
theorem kw_221 : Cond.classLink RL 31 "java/util/NoSuchElementException" ∈ BG := bg_2 (List.mem_of_getElem? (l := tables_1_2) (i := 99) rfl) rfl
theorem kw_222 : Cond.methodLink RL 27 yX6_removePunch ∈ BG := bg_2 (List.mem_of_getElem? (l := tables_1_2) (i := 100) rfl) rfl
theorem kw_223 : Cond.instanceMethod yX6_removePunch ∈ BG := bg_2 (List.mem_of_getElem? (l := tables_1_2) (i := 101) rfl) rfl
theorem kw_224 : Cond.selects RX6 yX6_removePunch yX6_removePunch ∈ BG := bg_2 (List.mem_of_getElem? (l := tables_1_2) (i := 102) rfl) rfl
theorem kw_225 : Cond.code yX6_removePunch cX6_removePunch 6 (some .boolean) ∈ BG := bg_2 (List.mem_of_getElem? (l := tables_1_2) (i := 103) rfl) rfl
theorem kw_226 : Cond.classLink RX6 97 "java/util/NoSuchElementException" ∈ BG := bg_2 (List.mem_of_getElem? (l := tables_1_2) (i := 104) rfl) rfl
theorem kw_227 : Cond.initialized "java/util/NoSuchElementException" ∈ BG := bg_1 (List.mem_of_getElem? (l := tables_1_1) (i := 15) rfl) rfl
theorem kw_228 : Cond.methodLink RX6 106 yX4_remove ∈ BG := bg_2 (List.mem_of_getElem? (l := tables_1_2) (i := 120) rfl) rfl
theorem kw_229 : Cond.instanceMethod yX4_remove ∈ BG := bg_2 (List.mem_of_getElem? (l := tables_1_2) (i := 121) rfl) rfl
theorem kw_230 : Cond.selects RX4 yX4_remove yX4_remove ∈ BG := bg_2 (List.mem_of_getElem? (l := tables_1_2) (i := 122) rfl) rfl
theorem kw_231 : Cond.code yX4_remove cX4_remove 3 none ∈ BG := bg_2 (List.mem_of_getElem? (l := tables_1_2) (i := 123) rfl) rfl
theorem kw_232 : Cond.methodLink RL 129 yX7_removePunch ∈ BG := bg_4 (List.mem_of_getElem? (l := tables_1_4) (i := 121) rfl) rfl
theorem kw_233 : Cond.instanceMethod yX7_removePunch ∈ BG := bg_4 (List.mem_of_getElem? (l := tables_1_4) (i := 122) rfl) rfl
theorem kw_234 : Cond.selects RX7 yX7_removePunch yX7_removePunch ∈ BG := bg_4 (List.mem_of_getElem? (l := tables_1_4) (i := 123) rfl) rfl
theorem kw_235 : Cond.code yX7_removePunch cX7_removePunch 6 (some .boolean) ∈ BG := bg_4 (List.mem_of_getElem? (l := tables_1_4) (i := 124) rfl) rfl
theorem kw_236 : Cond.methodLink RL 130 yL_enter ∈ BG := bg_2 (List.mem_of_getElem? (l := tables_1_2) (i := 124) rfl) rfl
theorem kw_237 : Cond.static yL_enter ∈ BG := bg_2 (List.mem_of_getElem? (l := tables_1_2) (i := 125) rfl) rfl
theorem kw_238 : Cond.codeWith yL_enter cL_enter 6 (some .int) [(0, 12, 15, 21), (0, 12, 19, 13), (0, 12, 23, 15)] ∈ BG := bg_2 (List.mem_of_getElem? (l := tables_1_2) (i := 126) rfl) rfl
theorem kw_239 : Cond.methodLink RL 33 yX6_enter ∈ BG := bg_2 (List.mem_of_getElem? (l := tables_1_2) (i := 127) rfl) rfl
theorem kw_240 : Cond.instanceMethod yX6_enter ∈ BG := bg_2 (List.mem_of_getElem? (l := tables_1_2) (i := 128) rfl) rfl
theorem kw_241 : Cond.selects RX6 yX6_enter yX6_enter ∈ BG := bg_2 (List.mem_of_getElem? (l := tables_1_2) (i := 129) rfl) rfl
theorem kw_242 : Cond.code yX6_enter cX6_enter 4 (some .int) ∈ BG := bg_2 (List.mem_of_getElem? (l := tables_1_2) (i := 130) rfl) rfl
theorem kw_243 : Cond.methodLink RX6 112 yX6_addByHand ∈ BG := bg_2 (List.mem_of_getElem? (l := tables_1_2) (i := 131) rfl) rfl
theorem kw_244 : Cond.static yX6_addByHand ∈ BG := bg_2 (List.mem_of_getElem? (l := tables_1_2) (i := 132) rfl) rfl
theorem kw_245 : Cond.code yX6_addByHand cX6_addByHand 4 (some .int) ∈ BG := bg_2 (List.mem_of_getElem? (l := tables_1_2) (i := 133) rfl) rfl
theorem kw_246 : Cond.methodLink RX6 209 yX4_addSpan ∈ BG := bg_2 (List.mem_of_getElem? (l := tables_1_2) (i := 134) rfl) rfl
theorem kw_247 : Cond.instanceMethod yX4_addSpan ∈ BG := bg_2 (List.mem_of_getElem? (l := tables_1_2) (i := 135) rfl) rfl
theorem kw_248 : Cond.selects RX4 yX4_addSpan yX4_addSpan ∈ BG := bg_2 (List.mem_of_getElem? (l := tables_1_2) (i := 136) rfl) rfl
theorem kw_249 : Cond.code yX4_addSpan cX4_addSpan 4 none ∈ BG := bg_2 (List.mem_of_getElem? (l := tables_1_2) (i := 137) rfl) rfl
theorem kw_250 : Cond.methodLink RX4 22 yX4_insert ∈ BG := bg_2 (List.mem_of_getElem? (l := tables_1_2) (i := 138) rfl) rfl
theorem kw_251 : Cond.methodLink RX4 26 yX4_set ∈ BG := bg_2 (List.mem_of_getElem? (l := tables_1_2) (i := 139) rfl) rfl
theorem kw_252 : Cond.methodLink RL 133 yX7_enter ∈ BG := bg_4 (List.mem_of_getElem? (l := tables_1_4) (i := 125) rfl) rfl
theorem kw_253 : Cond.instanceMethod yX7_enter ∈ BG := bg_4 (List.mem_of_getElem? (l := tables_1_4) (i := 126) rfl) rfl
theorem kw_254 : Cond.selects RX7 yX7_enter yX7_enter ∈ BG := bg_4 (List.mem_of_getElem? (l := tables_1_4) (i := 127) rfl) rfl
theorem kw_255 : Cond.code yX7_enter cX7_enter 4 (some .int) ∈ BG := bg_4 (List.mem_of_getElem? (l := tables_1_4) (i := 128) rfl) rfl
theorem kw_256 : Cond.methodLink RX7 114 yX7_puts ∈ BG := bg_4 (List.mem_of_getElem? (l := tables_1_4) (i := 129) rfl) rfl
theorem kw_257 : Cond.instanceMethod yX7_puts ∈ BG := bg_4 (List.mem_of_getElem? (l := tables_1_4) (i := 131) rfl) rfl
theorem kw_258 : Cond.selects RX7 yX7_puts yX7_puts ∈ BG := bg_0 (List.mem_of_getElem? (l := k2_sels lw_privs) (i := 19) rfl) rfl
theorem kw_259 : Cond.code yX7_puts cX7_puts 7 (some .int) ∈ BG := bg_4 (List.mem_of_getElem? (l := tables_1_4) (i := 132) rfl) rfl
theorem kw_260 : Cond.methodLink RL 134 yL_removeEntry ∈ BG := bg_2 (List.mem_of_getElem? (l := tables_1_2) (i := 140) rfl) rfl
theorem kw_261 : Cond.static yL_removeEntry ∈ BG := bg_2 (List.mem_of_getElem? (l := tables_1_2) (i := 141) rfl) rfl
theorem kw_262 : Cond.codeWith yL_removeEntry cL_removeEntry 5 (some .int) [(0, 10, 13, 21)] ∈ BG := bg_2 (List.mem_of_getElem? (l := tables_1_2) (i := 142) rfl) rfl
theorem kw_263 : Cond.methodLink RL 37 yX6_removeEntry ∈ BG := bg_2 (List.mem_of_getElem? (l := tables_1_2) (i := 143) rfl) rfl
theorem kw_264 : Cond.instanceMethod yX6_removeEntry ∈ BG := bg_2 (List.mem_of_getElem? (l := tables_1_2) (i := 144) rfl) rfl
theorem kw_265 : Cond.selects RX6 yX6_removeEntry yX6_removeEntry ∈ BG := bg_2 (List.mem_of_getElem? (l := tables_1_2) (i := 145) rfl) rfl
theorem kw_266 : Cond.code yX6_removeEntry cX6_removeEntry 3 (some .int) ∈ BG := bg_2 (List.mem_of_getElem? (l := tables_1_2) (i := 146) rfl) rfl
theorem kw_267 : Cond.methodLink RX6 116 yX6_removeNumbered ∈ BG := bg_2 (List.mem_of_getElem? (l := tables_1_2) (i := 147) rfl) rfl
theorem kw_268 : Cond.static yX6_removeNumbered ∈ BG := bg_2 (List.mem_of_getElem? (l := tables_1_2) (i := 148) rfl) rfl
theorem kw_269 : Cond.code yX6_removeNumbered cX6_removeNumbered 2 (some .int) ∈ BG := bg_2 (List.mem_of_getElem? (l := tables_1_2) (i := 149) rfl) rfl
theorem kw_270 : Cond.methodLink RX6 164 yX6_requireNumber ∈ BG := bg_2 (List.mem_of_getElem? (l := tables_1_2) (i := 150) rfl) rfl
theorem kw_271 : Cond.static yX6_requireNumber ∈ BG := bg_2 (List.mem_of_getElem? (l := tables_1_2) (i := 151) rfl) rfl
theorem kw_272 : Cond.code yX6_requireNumber cX6_requireNumber 2 none ∈ BG := bg_2 (List.mem_of_getElem? (l := tables_1_2) (i := 152) rfl) rfl
theorem kw_273 : Cond.methodLink RL 136 yX7_removeEntry ∈ BG := bg_4 (List.mem_of_getElem? (l := tables_1_4) (i := 133) rfl) rfl
theorem kw_274 : Cond.instanceMethod yX7_removeEntry ∈ BG := bg_4 (List.mem_of_getElem? (l := tables_1_4) (i := 134) rfl) rfl
theorem kw_275 : Cond.selects RX7 yX7_removeEntry yX7_removeEntry ∈ BG := bg_4 (List.mem_of_getElem? (l := tables_1_4) (i := 135) rfl) rfl
theorem kw_276 : Cond.code yX7_removeEntry cX7_removeEntry 3 (some .int) ∈ BG := bg_4 (List.mem_of_getElem? (l := tables_1_4) (i := 136) rfl) rfl
theorem kw_277 : Cond.methodLink RX7 118 yX7_takes ∈ BG := bg_4 (List.mem_of_getElem? (l := tables_1_4) (i := 137) rfl) rfl
theorem kw_278 : Cond.instanceMethod yX7_takes ∈ BG := bg_4 (List.mem_of_getElem? (l := tables_1_4) (i := 139) rfl) rfl
theorem kw_279 : Cond.selects RX7 yX7_takes yX7_takes ∈ BG := bg_0 (List.mem_of_getElem? (l := k2_sels lw_privs) (i := 20) rfl) rfl
theorem kw_280 : Cond.code yX7_takes cX7_takes 7 (some .int) ∈ BG := bg_4 (List.mem_of_getElem? (l := tables_1_4) (i := 140) rfl) rfl
theorem kw_281 : Cond.methodLink RL 137 yL_enterBreak ∈ BG := bg_2 (List.mem_of_getElem? (l := tables_1_2) (i := 154) rfl) rfl
theorem kw_282 : Cond.static yL_enterBreak ∈ BG := bg_2 (List.mem_of_getElem? (l := tables_1_2) (i := 155) rfl) rfl
theorem kw_283 : Cond.codeWith yL_enterBreak cL_enterBreak 6 (some .int) [(0, 12, 15, 21), (0, 12, 19, 13), (0, 12, 23, 15)] ∈ BG := bg_2 (List.mem_of_getElem? (l := tables_1_2) (i := 156) rfl) rfl
theorem kw_284 : Cond.methodLink RL 40 yX6_enterBreak ∈ BG := bg_2 (List.mem_of_getElem? (l := tables_1_2) (i := 157) rfl) rfl
theorem kw_285 : Cond.instanceMethod yX6_enterBreak ∈ BG := bg_2 (List.mem_of_getElem? (l := tables_1_2) (i := 158) rfl) rfl
theorem kw_286 : Cond.selects RX6 yX6_enterBreak yX6_enterBreak ∈ BG := bg_2 (List.mem_of_getElem? (l := tables_1_2) (i := 159) rfl) rfl
theorem kw_287 : Cond.code yX6_enterBreak cX6_enterBreak 4 (some .int) ∈ BG := bg_2 (List.mem_of_getElem? (l := tables_1_2) (i := 160) rfl) rfl
theorem kw_288 : Cond.methodLink RL 139 yX7_enterBreak ∈ BG := bg_4 (List.mem_of_getElem? (l := tables_1_4) (i := 141) rfl) rfl
theorem kw_289 : Cond.instanceMethod yX7_enterBreak ∈ BG := bg_4 (List.mem_of_getElem? (l := tables_1_4) (i := 142) rfl) rfl
theorem kw_290 : Cond.selects RX7 yX7_enterBreak yX7_enterBreak ∈ BG := bg_4 (List.mem_of_getElem? (l := tables_1_4) (i := 143) rfl) rfl
theorem kw_291 : Cond.code yX7_enterBreak cX7_enterBreak 4 (some .int) ∈ BG := bg_4 (List.mem_of_getElem? (l := tables_1_4) (i := 144) rfl) rfl
theorem kw_292 : Cond.methodLink RL 140 yL_removeBreak ∈ BG := bg_2 (List.mem_of_getElem? (l := tables_1_2) (i := 161) rfl) rfl
theorem kw_293 : Cond.static yL_removeBreak ∈ BG := bg_2 (List.mem_of_getElem? (l := tables_1_2) (i := 162) rfl) rfl
theorem kw_294 : Cond.codeWith yL_removeBreak cL_removeBreak 5 (some .int) [(0, 10, 13, 21)] ∈ BG := bg_2 (List.mem_of_getElem? (l := tables_1_2) (i := 163) rfl) rfl
theorem kw_295 : Cond.methodLink RL 43 yX6_removeBreak ∈ BG := bg_2 (List.mem_of_getElem? (l := tables_1_2) (i := 164) rfl) rfl
theorem kw_296 : Cond.instanceMethod yX6_removeBreak ∈ BG := bg_2 (List.mem_of_getElem? (l := tables_1_2) (i := 165) rfl) rfl
theorem kw_297 : Cond.selects RX6 yX6_removeBreak yX6_removeBreak ∈ BG := bg_2 (List.mem_of_getElem? (l := tables_1_2) (i := 166) rfl) rfl
theorem kw_298 : Cond.code yX6_removeBreak cX6_removeBreak 3 (some .int) ∈ BG := bg_2 (List.mem_of_getElem? (l := tables_1_2) (i := 167) rfl) rfl
theorem kw_299 : Cond.methodLink RL 142 yX7_removeBreak ∈ BG := bg_4 (List.mem_of_getElem? (l := tables_1_4) (i := 145) rfl) rfl
theorem kw_300 : Cond.instanceMethod yX7_removeBreak ∈ BG := bg_4 (List.mem_of_getElem? (l := tables_1_4) (i := 146) rfl) rfl
theorem kw_301 : Cond.selects RX7 yX7_removeBreak yX7_removeBreak ∈ BG := bg_4 (List.mem_of_getElem? (l := tables_1_4) (i := 147) rfl) rfl
theorem kw_302 : Cond.code yX7_removeBreak cX7_removeBreak 3 (some .int) ∈ BG := bg_4 (List.mem_of_getElem? (l := tables_1_4) (i := 148) rfl) rfl
theorem kw_303 : Cond.methodLink RL 143 yL_addPremium ∈ BG := bg_2 (List.mem_of_getElem? (l := tables_1_2) (i := 168) rfl) rfl
theorem kw_304 : Cond.static yL_addPremium ∈ BG := bg_2 (List.mem_of_getElem? (l := tables_1_2) (i := 169) rfl) rfl
theorem kw_305 : Cond.codeWith yL_addPremium cL_addPremium 7 (some .int) [(0, 14, 17, 13), (0, 14, 21, 15)] ∈ BG := bg_2 (List.mem_of_getElem? (l := tables_1_2) (i := 170) rfl) rfl
theorem kw_306 : Cond.methodLink RL 46 yX6_addPremium ∈ BG := bg_2 (List.mem_of_getElem? (l := tables_1_2) (i := 171) rfl) rfl
theorem kw_307 : Cond.instanceMethod yX6_addPremium ∈ BG := bg_2 (List.mem_of_getElem? (l := tables_1_2) (i := 172) rfl) rfl
theorem kw_308 : Cond.selects RX6 yX6_addPremium yX6_addPremium ∈ BG := bg_2 (List.mem_of_getElem? (l := tables_1_2) (i := 173) rfl) rfl
theorem kw_309 : Cond.code yX6_addPremium cX6_addPremium 5 (some .int) ∈ BG := bg_2 (List.mem_of_getElem? (l := tables_1_2) (i := 174) rfl) rfl
theorem kw_310 : Cond.methodLink RX6 125 yX2_add ∈ BG := bg_2 (List.mem_of_getElem? (l := tables_1_2) (i := 175) rfl) rfl
theorem kw_311 : Cond.instanceMethod yX2_add ∈ BG := bg_2 (List.mem_of_getElem? (l := tables_1_2) (i := 176) rfl) rfl
theorem kw_312 : Cond.selects RX2 yX2_add yX2_add ∈ BG := bg_2 (List.mem_of_getElem? (l := tables_1_2) (i := 177) rfl) rfl
theorem kw_313 : Cond.code yX2_add cX2_add 6 (some .int) ∈ BG := bg_2 (List.mem_of_getElem? (l := tables_1_2) (i := 178) rfl) rfl
theorem kw_314 : Cond.methodLink RX2 20 yX4_size ∈ BG := bg_2 (List.mem_of_getElem? (l := tables_1_2) (i := 179) rfl) rfl
theorem kw_315 : Cond.methodLink RX2 24 yX4_insert ∈ BG := bg_2 (List.mem_of_getElem? (l := tables_1_2) (i := 180) rfl) rfl
theorem kw_316 : Cond.methodLink RX2 28 yX4_set ∈ BG := bg_2 (List.mem_of_getElem? (l := tables_1_2) (i := 181) rfl) rfl
theorem kw_317 : Cond.methodLink RL 146 yX7_addPremium ∈ BG := bg_4 (List.mem_of_getElem? (l := tables_1_4) (i := 149) rfl) rfl
theorem kw_318 : Cond.instanceMethod yX7_addPremium ∈ BG := bg_4 (List.mem_of_getElem? (l := tables_1_4) (i := 150) rfl) rfl
theorem kw_319 : Cond.selects RX7 yX7_addPremium yX7_addPremium ∈ BG := bg_4 (List.mem_of_getElem? (l := tables_1_4) (i := 151) rfl) rfl
theorem kw_320 : Cond.code yX7_addPremium cX7_addPremium 6 (some .int) ∈ BG := bg_4 (List.mem_of_getElem? (l := tables_1_4) (i := 152) rfl) rfl
theorem kw_321 : Cond.fieldLink RX7 122 "TimesheetsModel" "rateMany" "I" ∈ BG := bg_3 (List.mem_of_getElem? (l := tables_1_3) (i := 238) rfl) rfl
theorem kw_322 : Cond.methodLink RL 147 yL_removePremium ∈ BG := bg_2 (List.mem_of_getElem? (l := tables_1_2) (i := 182) rfl) rfl
theorem kw_323 : Cond.static yL_removePremium ∈ BG := bg_2 (List.mem_of_getElem? (l := tables_1_2) (i := 183) rfl) rfl
theorem kw_324 : Cond.codeWith yL_removePremium cL_removePremium 4 (some .int) [(0, 9, 12, 21)] ∈ BG := bg_2 (List.mem_of_getElem? (l := tables_1_2) (i := 184) rfl) rfl
theorem kw_325 : Cond.methodLink RL 50 yX6_removePremium ∈ BG := bg_2 (List.mem_of_getElem? (l := tables_1_2) (i := 185) rfl) rfl
theorem kw_326 : Cond.instanceMethod yX6_removePremium ∈ BG := bg_2 (List.mem_of_getElem? (l := tables_1_2) (i := 186) rfl) rfl
theorem kw_327 : Cond.selects RX6 yX6_removePremium yX6_removePremium ∈ BG := bg_2 (List.mem_of_getElem? (l := tables_1_2) (i := 187) rfl) rfl
theorem kw_328 : Cond.code yX6_removePremium cX6_removePremium 2 (some .int) ∈ BG := bg_2 (List.mem_of_getElem? (l := tables_1_2) (i := 188) rfl) rfl
theorem kw_329 : Cond.methodLink RL 149 yX7_removePremium ∈ BG := bg_4 (List.mem_of_getElem? (l := tables_1_4) (i := 153) rfl) rfl
theorem kw_330 : Cond.instanceMethod yX7_removePremium ∈ BG := bg_4 (List.mem_of_getElem? (l := tables_1_4) (i := 154) rfl) rfl
theorem kw_331 : Cond.selects RX7 yX7_removePremium yX7_removePremium ∈ BG := bg_4 (List.mem_of_getElem? (l := tables_1_4) (i := 155) rfl) rfl
theorem kw_332 : Cond.code yX7_removePremium cX7_removePremium 3 (some .int) ∈ BG := bg_4 (List.mem_of_getElem? (l := tables_1_4) (i := 156) rfl) rfl
theorem kw_333 : Cond.methodLink RL 150 yL_closeWeek ∈ BG := bg_2 (List.mem_of_getElem? (l := tables_1_2) (i := 189) rfl) rfl
theorem kw_334 : Cond.static yL_closeWeek ∈ BG := bg_2 (List.mem_of_getElem? (l := tables_1_2) (i := 190) rfl) rfl
theorem kw_335 : Cond.codeWith yL_closeWeek cL_closeWeek 4 (some .int) [(0, 9, 12, 21), (0, 9, 15, 15)] ∈ BG := bg_2 (List.mem_of_getElem? (l := tables_1_2) (i := 191) rfl) rfl
theorem kw_336 : Cond.methodLink RL 53 yX6_closeWeek ∈ BG := bg_2 (List.mem_of_getElem? (l := tables_1_2) (i := 192) rfl) rfl
theorem kw_337 : Cond.instanceMethod yX6_closeWeek ∈ BG := bg_2 (List.mem_of_getElem? (l := tables_1_2) (i := 193) rfl) rfl
theorem kw_338 : Cond.selects RX6 yX6_closeWeek yX6_closeWeek ∈ BG := bg_2 (List.mem_of_getElem? (l := tables_1_2) (i := 194) rfl) rfl
theorem kw_339 : Cond.code yX6_closeWeek cX6_closeWeek 4 (some .int) ∈ BG := bg_2 (List.mem_of_getElem? (l := tables_1_2) (i := 195) rfl) rfl
theorem kw_340 : Cond.methodLink RX6 131 yX1_read ∈ BG := bg_2 (List.mem_of_getElem? (l := tables_1_2) (i := 197) rfl) rfl
theorem kw_341 : Cond.instanceMethod yX1_read ∈ BG := bg_2 (List.mem_of_getElem? (l := tables_1_2) (i := 198) rfl) rfl
theorem kw_342 : Cond.selects RX1 yX1_read yX1_read ∈ BG := bg_2 (List.mem_of_getElem? (l := tables_1_2) (i := 199) rfl) rfl
theorem kw_343 : Cond.code yX1_read cX1_read 5 none ∈ BG := bg_2 (List.mem_of_getElem? (l := tables_1_2) (i := 200) rfl) rfl
theorem kw_344 : Cond.methodLink RX1 30 yX5_read ∈ BG := bg_2 (List.mem_of_getElem? (l := tables_1_2) (i := 201) rfl) rfl
theorem kw_345 : Cond.instanceMethod yX5_read ∈ BG := bg_2 (List.mem_of_getElem? (l := tables_1_2) (i := 202) rfl) rfl
theorem kw_346 : Cond.selects RX5 yX5_read yX5_read ∈ BG := bg_2 (List.mem_of_getElem? (l := tables_1_2) (i := 203) rfl) rfl
theorem kw_347 : Cond.code yX5_read cX5_read 2 none ∈ BG := bg_2 (List.mem_of_getElem? (l := tables_1_2) (i := 204) rfl) rfl
theorem kw_348 : Cond.methodLink RX5 39 yX3_read ∈ BG := bg_2 (List.mem_of_getElem? (l := tables_1_2) (i := 205) rfl) rfl
theorem kw_349 : Cond.instanceMethod yX3_read ∈ BG := bg_2 (List.mem_of_getElem? (l := tables_1_2) (i := 206) rfl) rfl
theorem kw_350 : Cond.selects RX3 yX3_read yX3_read ∈ BG := bg_2 (List.mem_of_getElem? (l := tables_1_2) (i := 207) rfl) rfl
theorem kw_351 : Cond.code yX3_read cX3_read 3 none ∈ BG := bg_2 (List.mem_of_getElem? (l := tables_1_2) (i := 208) rfl) rfl
theorem kw_352 : Cond.methodLink RX3 24 yX4_clear ∈ BG := bg_2 (List.mem_of_getElem? (l := tables_1_2) (i := 209) rfl) rfl
theorem kw_353 : Cond.instanceMethod yX4_clear ∈ BG := bg_2 (List.mem_of_getElem? (l := tables_1_2) (i := 210) rfl) rfl
theorem kw_354 : Cond.selects RX4 yX4_clear yX4_clear ∈ BG := bg_2 (List.mem_of_getElem? (l := tables_1_2) (i := 211) rfl) rfl
theorem kw_355 : Cond.code yX4_clear cX4_clear 1 none ∈ BG := bg_2 (List.mem_of_getElem? (l := tables_1_2) (i := 212) rfl) rfl
theorem kw_356 : Cond.methodLink RX3 27 yX4_size ∈ BG := bg_2 (List.mem_of_getElem? (l := tables_1_2) (i := 213) rfl) rfl
theorem kw_357 : Cond.methodLink RX3 31 yX3_isIn ∈ BG := bg_2 (List.mem_of_getElem? (l := tables_1_2) (i := 214) rfl) rfl
theorem kw_358 : Cond.static yX3_isIn ∈ BG := bg_2 (List.mem_of_getElem? (l := tables_1_2) (i := 215) rfl) rfl
theorem kw_359 : Cond.code yX3_isIn cX3_isIn 2 (some .boolean) ∈ BG := bg_2 (List.mem_of_getElem? (l := tables_1_2) (i := 216) rfl) rfl
theorem kw_360 : Cond.methodLink RX3 42 yX4_get ∈ BG := bg_2 (List.mem_of_getElem? (l := tables_1_2) (i := 217) rfl) rfl
theorem kw_361 : Cond.methodLink RX3 35 yX3_addFromIn ∈ BG := bg_2 (List.mem_of_getElem? (l := tables_1_2) (i := 218) rfl) rfl
theorem kw_362 : Cond.instanceMethod yX3_addFromIn ∈ BG := bg_2 (List.mem_of_getElem? (l := tables_1_2) (i := 220) rfl) rfl
theorem kw_363 : Cond.selects RX3 yX3_addFromIn yX3_addFromIn ∈ BG := bg_0 (List.mem_of_getElem? (l := k2_sels lw_privs) (i := 2) rfl) rfl
theorem kw_364 : Cond.code yX3_addFromIn cX3_addFromIn 6 none ∈ BG := bg_2 (List.mem_of_getElem? (l := tables_1_2) (i := 221) rfl) rfl
theorem kw_365 : Cond.methodLink RX3 46 Lib.Math.min.name ∈ BG := bg_2 (List.mem_of_getElem? (l := tables_1_2) (i := 222) rfl) rfl
theorem kw_366 : Cond.static Lib.Math.min.name ∈ BG := bg_2 (List.mem_of_getElem? (l := tables_1_2) (i := 223) rfl) rfl
theorem kw_367 : Cond.initialized "java/lang/Math" ∈ BG := bg_1 (List.mem_of_getElem? (l := tables_1_1) (i := 16) rfl) rfl
theorem kw_368 : Cond.code Lib.Math.min.name Lib.Math.min.code 2 (some .int) ∈ BG := bg_2 (List.mem_of_getElem? (l := tables_1_2) (i := 224) rfl) rfl
theorem kw_369 : Cond.methodLink RX3 51 yX4_addSpan ∈ BG := bg_2 (List.mem_of_getElem? (l := tables_1_2) (i := 225) rfl) rfl
theorem kw_370 : Cond.methodLink RX3 39 yX3_addFromLoneOut ∈ BG := bg_2 (List.mem_of_getElem? (l := tables_1_2) (i := 226) rfl) rfl
theorem kw_371 : Cond.instanceMethod yX3_addFromLoneOut ∈ BG := bg_2 (List.mem_of_getElem? (l := tables_1_2) (i := 228) rfl) rfl
theorem kw_372 : Cond.selects RX3 yX3_addFromLoneOut yX3_addFromLoneOut ∈ BG := bg_0 (List.mem_of_getElem? (l := k2_sels lw_privs) (i := 3) rfl) rfl
theorem kw_373 : Cond.code yX3_addFromLoneOut cX3_addFromLoneOut 5 none ∈ BG := bg_2 (List.mem_of_getElem? (l := tables_1_2) (i := 229) rfl) rfl
theorem kw_374 : Cond.methodLink RX3 54 Lib.Math.max.name ∈ BG := bg_2 (List.mem_of_getElem? (l := tables_1_2) (i := 230) rfl) rfl
theorem kw_375 : Cond.static Lib.Math.max.name ∈ BG := bg_2 (List.mem_of_getElem? (l := tables_1_2) (i := 231) rfl) rfl
theorem kw_376 : Cond.code Lib.Math.max.name Lib.Math.max.code 2 (some .int) ∈ BG := bg_2 (List.mem_of_getElem? (l := tables_1_2) (i := 232) rfl) rfl
theorem kw_377 : Cond.methodLink RX5 43 yX4_clear ∈ BG := bg_2 (List.mem_of_getElem? (l := tables_1_2) (i := 233) rfl) rfl
theorem kw_378 : Cond.methodLink RX5 49 yX5_addEvents ∈ BG := bg_2 (List.mem_of_getElem? (l := tables_1_2) (i := 234) rfl) rfl
theorem kw_379 : Cond.instanceMethod yX5_addEvents ∈ BG := bg_2 (List.mem_of_getElem? (l := tables_1_2) (i := 236) rfl) rfl
theorem kw_380 : Cond.selects RX5 yX5_addEvents yX5_addEvents ∈ BG := bg_0 (List.mem_of_getElem? (l := k2_sels lw_privs) (i := 4) rfl) rfl
theorem kw_381 : Cond.code yX5_addEvents cX5_addEvents 5 none ∈ BG := bg_2 (List.mem_of_getElem? (l := tables_1_2) (i := 237) rfl) rfl
theorem kw_382 : Cond.methodLink RX5 62 yX4_size ∈ BG := bg_2 (List.mem_of_getElem? (l := tables_1_2) (i := 238) rfl) rfl
theorem kw_383 : Cond.methodLink RX5 66 yX4_get ∈ BG := bg_2 (List.mem_of_getElem? (l := tables_1_2) (i := 239) rfl) rfl
theorem kw_384 : Cond.methodLink RX5 70 yX5_addEvent ∈ BG := bg_3 (List.mem_of_getElem? (l := tables_1_3) (i := 0) rfl) rfl
theorem kw_385 : Cond.instanceMethod yX5_addEvent ∈ BG := bg_3 (List.mem_of_getElem? (l := tables_1_3) (i := 2) rfl) rfl
theorem kw_386 : Cond.selects RX5 yX5_addEvent yX5_addEvent ∈ BG := bg_0 (List.mem_of_getElem? (l := k2_sels lw_privs) (i := 5) rfl) rfl
theorem kw_387 : Cond.code yX5_addEvent cX5_addEvent 6 none ∈ BG := bg_3 (List.mem_of_getElem? (l := tables_1_3) (i := 3) rfl) rfl
theorem kw_388 : Cond.methodLink RX5 74 yX4_insert ∈ BG := bg_3 (List.mem_of_getElem? (l := tables_1_3) (i := 4) rfl) rfl
theorem kw_389 : Cond.methodLink RX5 78 yX4_set ∈ BG := bg_3 (List.mem_of_getElem? (l := tables_1_3) (i := 5) rfl) rfl
theorem kw_390 : Cond.methodLink RX5 59 yX5_goThroughEvents ∈ BG := bg_3 (List.mem_of_getElem? (l := tables_1_3) (i := 6) rfl) rfl
theorem kw_391 : Cond.instanceMethod yX5_goThroughEvents ∈ BG := bg_3 (List.mem_of_getElem? (l := tables_1_3) (i := 8) rfl) rfl
theorem kw_392 : Cond.selects RX5 yX5_goThroughEvents yX5_goThroughEvents ∈ BG := bg_0 (List.mem_of_getElem? (l := k2_sels lw_privs) (i := 6) rfl) rfl
theorem kw_393 : Cond.code yX5_goThroughEvents cX5_goThroughEvents 6 none ∈ BG := bg_3 (List.mem_of_getElem? (l := tables_1_3) (i := 9) rfl) rfl
theorem kw_394 : Cond.methodLink RX5 81 yX5_addWorked ∈ BG := bg_3 (List.mem_of_getElem? (l := tables_1_3) (i := 10) rfl) rfl
theorem kw_395 : Cond.instanceMethod yX5_addWorked ∈ BG := bg_3 (List.mem_of_getElem? (l := tables_1_3) (i := 12) rfl) rfl
theorem kw_396 : Cond.selects RX5 yX5_addWorked yX5_addWorked ∈ BG := bg_0 (List.mem_of_getElem? (l := k2_sels lw_privs) (i := 7) rfl) rfl
theorem kw_397 : Cond.code yX5_addWorked cX5_addWorked 4 none ∈ BG := bg_3 (List.mem_of_getElem? (l := tables_1_3) (i := 13) rfl) rfl
theorem kw_398 : Cond.methodLink RX5 84 yX4_addSpan ∈ BG := bg_3 (List.mem_of_getElem? (l := tables_1_3) (i := 14) rfl) rfl
theorem kw_399 : Cond.methodLink RX1 37 yX1_takeOffAutomaticBreaks ∈ BG := bg_3 (List.mem_of_getElem? (l := tables_1_3) (i := 15) rfl) rfl
theorem kw_400 : Cond.instanceMethod yX1_takeOffAutomaticBreaks ∈ BG := bg_3 (List.mem_of_getElem? (l := tables_1_3) (i := 17) rfl) rfl
theorem kw_401 : Cond.selects RX1 yX1_takeOffAutomaticBreaks yX1_takeOffAutomaticBreaks ∈ BG := bg_0 (List.mem_of_getElem? (l := k2_sels lw_privs) (i := 8) rfl) rfl
theorem kw_402 : Cond.code yX1_takeOffAutomaticBreaks cX1_takeOffAutomaticBreaks 5 none ∈ BG := bg_3 (List.mem_of_getElem? (l := tables_1_3) (i := 18) rfl) rfl
theorem kw_403 : Cond.methodLink RX1 64 Lib.Math.min.name ∈ BG := bg_3 (List.mem_of_getElem? (l := tables_1_3) (i := 22) rfl) rfl
theorem kw_404 : Cond.methodLink RX1 41 yX4_clear ∈ BG := bg_3 (List.mem_of_getElem? (l := tables_1_3) (i := 19) rfl) rfl
theorem kw_405 : Cond.methodLink RX1 56 yX4_size ∈ BG := bg_3 (List.mem_of_getElem? (l := tables_1_3) (i := 20) rfl) rfl
theorem kw_406 : Cond.methodLink RX1 60 yX4_get ∈ BG := bg_3 (List.mem_of_getElem? (l := tables_1_3) (i := 21) rfl) rfl
theorem kw_407 : Cond.methodLink RX1 69 yX4_addSpan ∈ BG := bg_3 (List.mem_of_getElem? (l := tables_1_3) (i := 23) rfl) rfl
theorem kw_408 : Cond.methodLink RX1 44 yX1_isFull ∈ BG := bg_3 (List.mem_of_getElem? (l := tables_1_3) (i := 24) rfl) rfl
theorem kw_409 : Cond.instanceMethod yX1_isFull ∈ BG := bg_3 (List.mem_of_getElem? (l := tables_1_3) (i := 26) rfl) rfl
theorem kw_410 : Cond.selects RX1 yX1_isFull yX1_isFull ∈ BG := bg_0 (List.mem_of_getElem? (l := k2_sels lw_privs) (i := 9) rfl) rfl
theorem kw_411 : Cond.code yX1_isFull cX1_isFull 3 (some .boolean) ∈ BG := bg_3 (List.mem_of_getElem? (l := tables_1_3) (i := 27) rfl) rfl
theorem kw_412 : Cond.static yX6_minutesOnDay ∈ BG := bg_3 (List.mem_of_getElem? (l := tables_1_3) (i := 29) rfl) rfl
theorem kw_413 : Cond.code yX6_minutesOnDay cX6_minutesOnDay 6 (some .int) ∈ BG := bg_3 (List.mem_of_getElem? (l := tables_1_3) (i := 30) rfl) rfl
theorem kw_414 : Cond.methodLink RX6 213 Lib.Math.max.name ∈ BG := bg_3 (List.mem_of_getElem? (l := tables_1_3) (i := 31) rfl) rfl
theorem kw_415 : Cond.methodLink RX6 218 Lib.Math.min.name ∈ BG := bg_3 (List.mem_of_getElem? (l := tables_1_3) (i := 32) rfl) rfl
theorem kw_416 : Cond.methodLink RX1 48 yX1_addPartsOfDay ∈ BG := bg_3 (List.mem_of_getElem? (l := tables_1_3) (i := 33) rfl) rfl
theorem kw_417 : Cond.instanceMethod yX1_addPartsOfDay ∈ BG := bg_3 (List.mem_of_getElem? (l := tables_1_3) (i := 35) rfl) rfl
theorem kw_418 : Cond.selects RX1 yX1_addPartsOfDay yX1_addPartsOfDay ∈ BG := bg_0 (List.mem_of_getElem? (l := k2_sels lw_privs) (i := 10) rfl) rfl
theorem kw_419 : Cond.code yX1_addPartsOfDay cX1_addPartsOfDay 8 none ∈ BG := bg_3 (List.mem_of_getElem? (l := tables_1_3) (i := 36) rfl) rfl
theorem kw_420 : Cond.methodLink RX1 72 Lib.Math.max.name ∈ BG := bg_3 (List.mem_of_getElem? (l := tables_1_3) (i := 37) rfl) rfl
theorem kw_421 : Cond.methodLink RX1 75 yX1_addParts ∈ BG := bg_3 (List.mem_of_getElem? (l := tables_1_3) (i := 38) rfl) rfl
theorem kw_422 : Cond.instanceMethod yX1_addParts ∈ BG := bg_3 (List.mem_of_getElem? (l := tables_1_3) (i := 40) rfl) rfl
theorem kw_423 : Cond.selects RX1 yX1_addParts yX1_addParts ∈ BG := bg_0 (List.mem_of_getElem? (l := k2_sels lw_privs) (i := 11) rfl) rfl
theorem kw_424 : Cond.code yX1_addParts cX1_addParts 12 none ∈ BG := bg_3 (List.mem_of_getElem? (l := tables_1_3) (i := 41) rfl) rfl
theorem kw_425 : Cond.methodLink RX1 79 yX1_untilLimit ∈ BG := bg_3 (List.mem_of_getElem? (l := tables_1_3) (i := 42) rfl) rfl
theorem kw_426 : Cond.static yX1_untilLimit ∈ BG := bg_3 (List.mem_of_getElem? (l := tables_1_3) (i := 43) rfl) rfl
theorem kw_427 : Cond.code yX1_untilLimit cX1_untilLimit 3 (some .int) ∈ BG := bg_3 (List.mem_of_getElem? (l := tables_1_3) (i := 44) rfl) rfl
theorem kw_428 : Cond.methodLink RX1 82 yX1_categoryFor ∈ BG := bg_3 (List.mem_of_getElem? (l := tables_1_3) (i := 45) rfl) rfl
theorem kw_429 : Cond.static yX1_categoryFor ∈ BG := bg_3 (List.mem_of_getElem? (l := tables_1_3) (i := 46) rfl) rfl
theorem kw_430 : Cond.code yX1_categoryFor cX1_categoryFor 3 (some .int) ∈ BG := bg_3 (List.mem_of_getElem? (l := tables_1_3) (i := 47) rfl) rfl
theorem kw_431 : Cond.methodLink RX1 86 yX4_set ∈ BG := bg_3 (List.mem_of_getElem? (l := tables_1_3) (i := 48) rfl) rfl
theorem kw_432 : Cond.methodLink RX6 135 yX1_basicPay ∈ BG := bg_3 (List.mem_of_getElem? (l := tables_1_3) (i := 49) rfl) rfl
theorem kw_433 : Cond.instanceMethod yX1_basicPay ∈ BG := bg_3 (List.mem_of_getElem? (l := tables_1_3) (i := 50) rfl) rfl
theorem kw_434 : Cond.selects RX1 yX1_basicPay yX1_basicPay ∈ BG := bg_3 (List.mem_of_getElem? (l := tables_1_3) (i := 51) rfl) rfl
theorem kw_435 : Cond.code yX1_basicPay cX1_basicPay 3 (some .int) ∈ BG := bg_3 (List.mem_of_getElem? (l := tables_1_3) (i := 52) rfl) rfl
theorem kw_436 : Cond.methodLink RX1 93 yX1_quartersOfWeek ∈ BG := bg_3 (List.mem_of_getElem? (l := tables_1_3) (i := 53) rfl) rfl
theorem kw_437 : Cond.instanceMethod yX1_quartersOfWeek ∈ BG := bg_3 (List.mem_of_getElem? (l := tables_1_3) (i := 55) rfl) rfl
theorem kw_438 : Cond.selects RX1 yX1_quartersOfWeek yX1_quartersOfWeek ∈ BG := bg_0 (List.mem_of_getElem? (l := k2_sels lw_privs) (i := 12) rfl) rfl
theorem kw_439 : Cond.code yX1_quartersOfWeek cX1_quartersOfWeek 4 (some .int) ∈ BG := bg_3 (List.mem_of_getElem? (l := tables_1_3) (i := 56) rfl) rfl
theorem kw_440 : Cond.methodLink RX1 90 yX1_minutesOf ∈ BG := bg_3 (List.mem_of_getElem? (l := tables_1_3) (i := 57) rfl) rfl
theorem kw_441 : Cond.instanceMethod yX1_minutesOf ∈ BG := bg_3 (List.mem_of_getElem? (l := tables_1_3) (i := 58) rfl) rfl
theorem kw_442 : Cond.selects RX1 yX1_minutesOf yX1_minutesOf ∈ BG := bg_3 (List.mem_of_getElem? (l := tables_1_3) (i := 59) rfl) rfl
theorem kw_443 : Cond.code yX1_minutesOf cX1_minutesOf 5 (some .int) ∈ BG := bg_3 (List.mem_of_getElem? (l := tables_1_3) (i := 60) rfl) rfl
theorem kw_444 : Cond.methodLink RX6 142 yX2_payFor ∈ BG := bg_3 (List.mem_of_getElem? (l := tables_1_3) (i := 61) rfl) rfl
theorem kw_445 : Cond.instanceMethod yX2_payFor ∈ BG := bg_3 (List.mem_of_getElem? (l := tables_1_3) (i := 62) rfl) rfl
theorem kw_446 : Cond.selects RX2 yX2_payFor yX2_payFor ∈ BG := bg_3 (List.mem_of_getElem? (l := tables_1_3) (i := 63) rfl) rfl
theorem kw_447 : Cond.code yX2_payFor cX2_payFor 4 (some .int) ∈ BG := bg_3 (List.mem_of_getElem? (l := tables_1_3) (i := 64) rfl) rfl
theorem kw_448 : Cond.methodLink RX2 32 yX4_get ∈ BG := bg_3 (List.mem_of_getElem? (l := tables_1_3) (i := 65) rfl) rfl
theorem kw_449 : Cond.methodLink RX2 36 yX2_sumOver ∈ BG := bg_3 (List.mem_of_getElem? (l := tables_1_3) (i := 66) rfl) rfl
theorem kw_450 : Cond.instanceMethod yX2_sumOver ∈ BG := bg_3 (List.mem_of_getElem? (l := tables_1_3) (i := 68) rfl) rfl
theorem kw_451 : Cond.selects RX2 yX2_sumOver yX2_sumOver ∈ BG := bg_0 (List.mem_of_getElem? (l := k2_sels lw_privs) (i := 13) rfl) rfl
theorem kw_452 : Cond.code yX2_sumOver cX2_sumOver 8 (some .int) ∈ BG := bg_3 (List.mem_of_getElem? (l := tables_1_3) (i := 69) rfl) rfl
theorem kw_453 : Cond.methodLink RX2 43 Lib.Math.min.name ∈ BG := bg_3 (List.mem_of_getElem? (l := tables_1_3) (i := 74) rfl) rfl
theorem kw_454 : Cond.methodLink RX2 39 yX2_nextChange ∈ BG := bg_3 (List.mem_of_getElem? (l := tables_1_3) (i := 70) rfl) rfl
theorem kw_455 : Cond.instanceMethod yX2_nextChange ∈ BG := bg_3 (List.mem_of_getElem? (l := tables_1_3) (i := 72) rfl) rfl
theorem kw_456 : Cond.selects RX2 yX2_nextChange yX2_nextChange ∈ BG := bg_0 (List.mem_of_getElem? (l := k2_sels lw_privs) (i := 14) rfl) rfl
theorem kw_457 : Cond.code yX2_nextChange cX2_nextChange 6 (some .int) ∈ BG := bg_3 (List.mem_of_getElem? (l := tables_1_3) (i := 73) rfl) rfl
theorem kw_458 : Cond.methodLink RX2 48 yX2_greatestRate ∈ BG := bg_3 (List.mem_of_getElem? (l := tables_1_3) (i := 75) rfl) rfl
theorem kw_459 : Cond.instanceMethod yX2_greatestRate ∈ BG := bg_3 (List.mem_of_getElem? (l := tables_1_3) (i := 77) rfl) rfl
theorem kw_460 : Cond.selects RX2 yX2_greatestRate yX2_greatestRate ∈ BG := bg_0 (List.mem_of_getElem? (l := k2_sels lw_privs) (i := 15) rfl) rfl
theorem kw_461 : Cond.code yX2_greatestRate cX2_greatestRate 6 (some .int) ∈ BG := bg_3 (List.mem_of_getElem? (l := tables_1_3) (i := 78) rfl) rfl
theorem kw_462 : Cond.methodLink RX2 55 Lib.Math.max.name ∈ BG := bg_3 (List.mem_of_getElem? (l := tables_1_3) (i := 82) rfl) rfl
theorem kw_463 : Cond.methodLink RX2 51 yX2_isBetween ∈ BG := bg_3 (List.mem_of_getElem? (l := tables_1_3) (i := 79) rfl) rfl
theorem kw_464 : Cond.static yX2_isBetween ∈ BG := bg_3 (List.mem_of_getElem? (l := tables_1_3) (i := 80) rfl) rfl
theorem kw_465 : Cond.code yX2_isBetween cX2_isBetween 3 (some .boolean) ∈ BG := bg_3 (List.mem_of_getElem? (l := tables_1_3) (i := 81) rfl) rfl
theorem kw_466 : Cond.methodLink RX6 146 yX0_beginNextWeek ∈ BG := bg_3 (List.mem_of_getElem? (l := tables_1_3) (i := 83) rfl) rfl
theorem kw_467 : Cond.instanceMethod yX0_beginNextWeek ∈ BG := bg_3 (List.mem_of_getElem? (l := tables_1_3) (i := 84) rfl) rfl
theorem kw_468 : Cond.selects RX0 yX0_beginNextWeek yX0_beginNextWeek ∈ BG := bg_3 (List.mem_of_getElem? (l := tables_1_3) (i := 85) rfl) rfl
theorem kw_469 : Cond.code yX0_beginNextWeek cX0_beginNextWeek 2 none ∈ BG := bg_3 (List.mem_of_getElem? (l := tables_1_3) (i := 86) rfl) rfl
theorem kw_470 : Cond.methodLink RX0 37 yX4_clear ∈ BG := bg_3 (List.mem_of_getElem? (l := tables_1_3) (i := 87) rfl) rfl
theorem kw_471 : Cond.methodLink RL 152 yX7_closeWeek ∈ BG := bg_4 (List.mem_of_getElem? (l := tables_1_4) (i := 157) rfl) rfl
theorem kw_472 : Cond.instanceMethod yX7_closeWeek ∈ BG := bg_4 (List.mem_of_getElem? (l := tables_1_4) (i := 158) rfl) rfl
theorem kw_473 : Cond.selects RX7 yX7_closeWeek yX7_closeWeek ∈ BG := bg_4 (List.mem_of_getElem? (l := tables_1_4) (i := 159) rfl) rfl
theorem kw_474 : Cond.code yX7_closeWeek cX7_closeWeek 3 (some .int) ∈ BG := bg_4 (List.mem_of_getElem? (l := tables_1_4) (i := 160) rfl) rfl
theorem kw_475 : Cond.methodLink RX7 174 yX7_payOf ∈ BG := bg_4 (List.mem_of_getElem? (l := tables_1_4) (i := 161) rfl) rfl
theorem kw_476 : Cond.instanceMethod yX7_payOf ∈ BG := bg_4 (List.mem_of_getElem? (l := tables_1_4) (i := 163) rfl) rfl
theorem kw_477 : Cond.selects RX7 yX7_payOf yX7_payOf ∈ BG := bg_0 (List.mem_of_getElem? (l := k2_sels lw_privs) (i := 21) rfl) rfl
theorem kw_478 : Cond.code yX7_payOf cX7_payOf 3 (some .int) ∈ BG := bg_4 (List.mem_of_getElem? (l := tables_1_4) (i := 164) rfl) rfl
theorem kw_479 : Cond.methodLink RX7 167 yX7_lays ∈ BG := bg_4 (List.mem_of_getElem? (l := tables_1_4) (i := 165) rfl) rfl
theorem kw_480 : Cond.instanceMethod yX7_lays ∈ BG := bg_4 (List.mem_of_getElem? (l := tables_1_4) (i := 167) rfl) rfl
theorem kw_481 : Cond.selects RX7 yX7_lays yX7_lays ∈ BG := bg_0 (List.mem_of_getElem? (l := k2_sels lw_privs) (i := 22) rfl) rfl
theorem kw_482 : Cond.code yX7_lays cX7_lays 3 none ∈ BG := bg_4 (List.mem_of_getElem? (l := tables_1_4) (i := 168) rfl) rfl
theorem kw_483 : Cond.fieldLink RX7 125 "TimesheetsModel" "shiftMany" "I" ∈ BG := bg_4 (List.mem_of_getElem? (l := tables_1_4) (i := 3) rfl) rfl
theorem kw_484 : Cond.methodLink RX7 135 yX7_findsShifts ∈ BG := bg_4 (List.mem_of_getElem? (l := tables_1_4) (i := 169) rfl) rfl
theorem kw_485 : Cond.instanceMethod yX7_findsShifts ∈ BG := bg_4 (List.mem_of_getElem? (l := tables_1_4) (i := 171) rfl) rfl
theorem kw_486 : Cond.selects RX7 yX7_findsShifts yX7_findsShifts ∈ BG := bg_0 (List.mem_of_getElem? (l := k2_sels lw_privs) (i := 23) rfl) rfl
theorem kw_487 : Cond.code yX7_findsShifts cX7_findsShifts 9 none ∈ BG := bg_4 (List.mem_of_getElem? (l := tables_1_4) (i := 172) rfl) rfl
theorem kw_488 : Cond.fieldLink RX7 128 "TimesheetsModel" "repairs" "I" ∈ BG := bg_4 (List.mem_of_getElem? (l := tables_1_4) (i := 4) rfl) rfl
theorem kw_489 : Cond.methodLink RX7 131 yX7_makes ∈ BG := bg_4 (List.mem_of_getElem? (l := tables_1_4) (i := 173) rfl) rfl
theorem kw_490 : Cond.instanceMethod yX7_makes ∈ BG := bg_4 (List.mem_of_getElem? (l := tables_1_4) (i := 175) rfl) rfl
theorem kw_491 : Cond.selects RX7 yX7_makes yX7_makes ∈ BG := bg_0 (List.mem_of_getElem? (l := k2_sels lw_privs) (i := 24) rfl) rfl
theorem kw_492 : Cond.code yX7_makes cX7_makes 4 none ∈ BG := bg_4 (List.mem_of_getElem? (l := tables_1_4) (i := 176) rfl) rfl
theorem kw_493 : Cond.methodLink RX7 139 yX7_marks ∈ BG := bg_4 (List.mem_of_getElem? (l := tables_1_4) (i := 177) rfl) rfl
theorem kw_494 : Cond.instanceMethod yX7_marks ∈ BG := bg_4 (List.mem_of_getElem? (l := tables_1_4) (i := 179) rfl) rfl
theorem kw_495 : Cond.selects RX7 yX7_marks yX7_marks ∈ BG := bg_0 (List.mem_of_getElem? (l := k2_sels lw_privs) (i := 25) rfl) rfl
theorem kw_496 : Cond.code yX7_marks cX7_marks 4 none ∈ BG := bg_4 (List.mem_of_getElem? (l := tables_1_4) (i := 180) rfl) rfl
theorem kw_497 : Cond.methodLink RX7 143 yX7_findsPaid ∈ BG := bg_4 (List.mem_of_getElem? (l := tables_1_4) (i := 181) rfl) rfl
theorem kw_498 : Cond.instanceMethod yX7_findsPaid ∈ BG := bg_4 (List.mem_of_getElem? (l := tables_1_4) (i := 183) rfl) rfl
theorem kw_499 : Cond.selects RX7 yX7_findsPaid yX7_findsPaid ∈ BG := bg_0 (List.mem_of_getElem? (l := k2_sels lw_privs) (i := 26) rfl) rfl
theorem kw_500 : Cond.code yX7_findsPaid cX7_findsPaid 5 none ∈ BG := bg_4 (List.mem_of_getElem? (l := tables_1_4) (i := 184) rfl) rfl
theorem kw_501 : Cond.fieldLink RX7 152 "TimesheetsModel" "doubled" "I" ∈ BG := bg_4 (List.mem_of_getElem? (l := tables_1_4) (i := 15) rfl) rfl
theorem kw_502 : Cond.fieldLink RX7 155 "TimesheetsModel" "runs" "I" ∈ BG := bg_4 (List.mem_of_getElem? (l := tables_1_4) (i := 16) rfl) rfl
theorem kw_503 : Cond.fieldLink RX7 158 "TimesheetsModel" "longest" "I" ∈ BG := bg_4 (List.mem_of_getElem? (l := tables_1_4) (i := 17) rfl) rfl
theorem kw_504 : Cond.methodLink RX7 146 yX7_findsKinds ∈ BG := bg_4 (List.mem_of_getElem? (l := tables_1_4) (i := 185) rfl) rfl
theorem kw_505 : Cond.instanceMethod yX7_findsKinds ∈ BG := bg_4 (List.mem_of_getElem? (l := tables_1_4) (i := 187) rfl) rfl
theorem kw_506 : Cond.selects RX7 yX7_findsKinds yX7_findsKinds ∈ BG := bg_0 (List.mem_of_getElem? (l := k2_sels lw_privs) (i := 27) rfl) rfl
theorem kw_507 : Cond.code yX7_findsKinds cX7_findsKinds 7 none ∈ BG := bg_4 (List.mem_of_getElem? (l := tables_1_4) (i := 188) rfl) rfl
theorem kw_508 : Cond.methodLink RX7 149 yX7_findsShares ∈ BG := bg_4 (List.mem_of_getElem? (l := tables_1_4) (i := 189) rfl) rfl
theorem kw_509 : Cond.instanceMethod yX7_findsShares ∈ BG := bg_4 (List.mem_of_getElem? (l := tables_1_4) (i := 191) rfl) rfl
theorem kw_510 : Cond.selects RX7 yX7_findsShares yX7_findsShares ∈ BG := bg_0 (List.mem_of_getElem? (l := k2_sels lw_privs) (i := 28) rfl) rfl
theorem kw_511 : Cond.code yX7_findsShares cX7_findsShares 5 none ∈ BG := bg_4 (List.mem_of_getElem? (l := tables_1_4) (i := 192) rfl) rfl
theorem kw_512 : Cond.methodLink RX7 161 yX7_ahead ∈ BG := bg_4 (List.mem_of_getElem? (l := tables_1_4) (i := 193) rfl) rfl
theorem kw_513 : Cond.instanceMethod yX7_ahead ∈ BG := bg_4 (List.mem_of_getElem? (l := tables_1_4) (i := 195) rfl) rfl
theorem kw_514 : Cond.selects RX7 yX7_ahead yX7_ahead ∈ BG := bg_0 (List.mem_of_getElem? (l := k2_sels lw_privs) (i := 29) rfl) rfl
theorem kw_515 : Cond.code yX7_ahead cX7_ahead 7 (some .int) ∈ BG := bg_4 (List.mem_of_getElem? (l := tables_1_4) (i := 196) rfl) rfl
theorem kw_516 : Cond.methodLink RX7 170 yX7_extra ∈ BG := bg_4 (List.mem_of_getElem? (l := tables_1_4) (i := 197) rfl) rfl
theorem kw_517 : Cond.instanceMethod yX7_extra ∈ BG := bg_4 (List.mem_of_getElem? (l := tables_1_4) (i := 199) rfl) rfl
theorem kw_518 : Cond.selects RX7 yX7_extra yX7_extra ∈ BG := bg_0 (List.mem_of_getElem? (l := k2_sels lw_privs) (i := 30) rfl) rfl
theorem kw_519 : Cond.code yX7_extra cX7_extra 5 (some .int) ∈ BG := bg_4 (List.mem_of_getElem? (l := tables_1_4) (i := 200) rfl) rfl
theorem kw_520 : Cond.methodLink RX7 164 yX7_applies ∈ BG := bg_4 (List.mem_of_getElem? (l := tables_1_4) (i := 201) rfl) rfl
theorem kw_521 : Cond.instanceMethod yX7_applies ∈ BG := bg_4 (List.mem_of_getElem? (l := tables_1_4) (i := 203) rfl) rfl
theorem kw_522 : Cond.selects RX7 yX7_applies yX7_applies ∈ BG := bg_0 (List.mem_of_getElem? (l := k2_sels lw_privs) (i := 31) rfl) rfl
theorem kw_523 : Cond.code yX7_applies cX7_applies 7 (some .boolean) ∈ BG := bg_4 (List.mem_of_getElem? (l := tables_1_4) (i := 204) rfl) rfl
theorem kw_524 : Cond.methodLink RL 153 yX6_employees ∈ BG := bg_1 (List.mem_of_getElem? (l := tables_1_1) (i := 137) rfl) rfl
theorem kw_525 : Cond.instanceMethod yX6_employees ∈ BG := bg_1 (List.mem_of_getElem? (l := tables_1_1) (i := 138) rfl) rfl
theorem kw_526 : Cond.selects RX6 yX6_employees yX6_employees ∈ BG := bg_1 (List.mem_of_getElem? (l := tables_1_1) (i := 139) rfl) rfl
theorem kw_527 : Cond.code yX6_employees cX6_employees 1 (some .int) ∈ BG := bg_1 (List.mem_of_getElem? (l := tables_1_1) (i := 140) rfl) rfl
theorem kw_528 : Cond.methodLink RL 156 yX7_employees ∈ BG := bg_4 (List.mem_of_getElem? (l := tables_1_4) (i := 205) rfl) rfl
theorem kw_529 : Cond.instanceMethod yX7_employees ∈ BG := bg_4 (List.mem_of_getElem? (l := tables_1_4) (i := 206) rfl) rfl
theorem kw_530 : Cond.selects RX7 yX7_employees yX7_employees ∈ BG := bg_4 (List.mem_of_getElem? (l := tables_1_4) (i := 207) rfl) rfl
theorem kw_531 : Cond.code yX7_employees cX7_employees 1 (some .int) ∈ BG := bg_4 (List.mem_of_getElem? (l := tables_1_4) (i := 208) rfl) rfl
theorem kw_532 : Cond.methodLink RL 157 yL_closedWeeks ∈ BG := bg_3 (List.mem_of_getElem? (l := tables_1_3) (i := 88) rfl) rfl
theorem kw_533 : Cond.static yL_closedWeeks ∈ BG := bg_3 (List.mem_of_getElem? (l := tables_1_3) (i := 89) rfl) rfl
theorem kw_534 : Cond.codeWith yL_closedWeeks cL_closedWeeks 4 (some .int) [(0, 9, 12, 21)] ∈ BG := bg_3 (List.mem_of_getElem? (l := tables_1_3) (i := 90) rfl) rfl
theorem kw_535 : Cond.methodLink RL 56 yX6_closedWeeks ∈ BG := bg_3 (List.mem_of_getElem? (l := tables_1_3) (i := 91) rfl) rfl
theorem kw_536 : Cond.instanceMethod yX6_closedWeeks ∈ BG := bg_3 (List.mem_of_getElem? (l := tables_1_3) (i := 92) rfl) rfl
theorem kw_537 : Cond.selects RX6 yX6_closedWeeks yX6_closedWeeks ∈ BG := bg_3 (List.mem_of_getElem? (l := tables_1_3) (i := 93) rfl) rfl
theorem kw_538 : Cond.code yX6_closedWeeks cX6_closedWeeks 2 (some .int) ∈ BG := bg_3 (List.mem_of_getElem? (l := tables_1_3) (i := 94) rfl) rfl
theorem kw_539 : Cond.methodLink RL 159 yX7_closedWeeks ∈ BG := bg_4 (List.mem_of_getElem? (l := tables_1_4) (i := 209) rfl) rfl
theorem kw_540 : Cond.instanceMethod yX7_closedWeeks ∈ BG := bg_4 (List.mem_of_getElem? (l := tables_1_4) (i := 210) rfl) rfl
theorem kw_541 : Cond.selects RX7 yX7_closedWeeks yX7_closedWeeks ∈ BG := bg_4 (List.mem_of_getElem? (l := tables_1_4) (i := 211) rfl) rfl
theorem kw_542 : Cond.code yX7_closedWeeks cX7_closedWeeks 2 (some .int) ∈ BG := bg_4 (List.mem_of_getElem? (l := tables_1_4) (i := 212) rfl) rfl
theorem kw_543 : Cond.methodLink RX7 178 yX7_fails ∈ BG := bg_4 (List.mem_of_getElem? (l := tables_1_4) (i := 213) rfl) rfl
theorem kw_544 : Cond.instanceMethod yX7_fails ∈ BG := bg_4 (List.mem_of_getElem? (l := tables_1_4) (i := 215) rfl) rfl
theorem kw_545 : Cond.selects RX7 yX7_fails yX7_fails ∈ BG := bg_0 (List.mem_of_getElem? (l := k2_sels lw_privs) (i := 32) rfl) rfl
theorem kw_546 : Cond.code yX7_fails cX7_fails 2 (some .int) ∈ BG := bg_4 (List.mem_of_getElem? (l := tables_1_4) (i := 216) rfl) rfl
theorem kw_547 : Cond.methodLink RL 160 yL_earned ∈ BG := bg_3 (List.mem_of_getElem? (l := tables_1_3) (i := 95) rfl) rfl
theorem kw_548 : Cond.static yL_earned ∈ BG := bg_3 (List.mem_of_getElem? (l := tables_1_3) (i := 96) rfl) rfl
theorem kw_549 : Cond.codeWith yL_earned cL_earned 4 (some .int) [(0, 8, 11, 21)] ∈ BG := bg_3 (List.mem_of_getElem? (l := tables_1_3) (i := 97) rfl) rfl
theorem kw_550 : Cond.methodLink RL 59 yX6_earned ∈ BG := bg_3 (List.mem_of_getElem? (l := tables_1_3) (i := 98) rfl) rfl
theorem kw_551 : Cond.instanceMethod yX6_earned ∈ BG := bg_3 (List.mem_of_getElem? (l := tables_1_3) (i := 99) rfl) rfl
theorem kw_552 : Cond.selects RX6 yX6_earned yX6_earned ∈ BG := bg_3 (List.mem_of_getElem? (l := tables_1_3) (i := 100) rfl) rfl
theorem kw_553 : Cond.code yX6_earned cX6_earned 2 (some .long) ∈ BG := bg_3 (List.mem_of_getElem? (l := tables_1_3) (i := 101) rfl) rfl
theorem kw_554 : Cond.methodLink RL 162 yX7_earned ∈ BG := bg_4 (List.mem_of_getElem? (l := tables_1_4) (i := 217) rfl) rfl
theorem kw_555 : Cond.instanceMethod yX7_earned ∈ BG := bg_4 (List.mem_of_getElem? (l := tables_1_4) (i := 218) rfl) rfl
theorem kw_556 : Cond.selects RX7 yX7_earned yX7_earned ∈ BG := bg_4 (List.mem_of_getElem? (l := tables_1_4) (i := 219) rfl) rfl
theorem kw_557 : Cond.code yX7_earned cX7_earned 2 (some .long) ∈ BG := bg_4 (List.mem_of_getElem? (l := tables_1_4) (i := 220) rfl) rfl
theorem kw_558 : Cond.methodLink RL 163 yL_shifts ∈ BG := bg_3 (List.mem_of_getElem? (l := tables_1_3) (i := 102) rfl) rfl
theorem kw_559 : Cond.static yL_shifts ∈ BG := bg_3 (List.mem_of_getElem? (l := tables_1_3) (i := 103) rfl) rfl
theorem kw_560 : Cond.codeWith yL_shifts cL_shifts 4 (some .int) [(0, 9, 12, 21)] ∈ BG := bg_3 (List.mem_of_getElem? (l := tables_1_3) (i := 104) rfl) rfl
theorem kw_561 : Cond.methodLink RL 63 yX6_shifts ∈ BG := bg_3 (List.mem_of_getElem? (l := tables_1_3) (i := 105) rfl) rfl
theorem kw_562 : Cond.instanceMethod yX6_shifts ∈ BG := bg_3 (List.mem_of_getElem? (l := tables_1_3) (i := 106) rfl) rfl
theorem kw_563 : Cond.selects RX6 yX6_shifts yX6_shifts ∈ BG := bg_3 (List.mem_of_getElem? (l := tables_1_3) (i := 107) rfl) rfl
theorem kw_564 : Cond.code yX6_shifts cX6_shifts 2 (some .int) ∈ BG := bg_3 (List.mem_of_getElem? (l := tables_1_3) (i := 108) rfl) rfl
theorem kw_565 : Cond.methodLink RX6 156 yX3_read ∈ BG := bg_3 (List.mem_of_getElem? (l := tables_1_3) (i := 109) rfl) rfl
theorem kw_566 : Cond.methodLink RL 165 yX7_shifts ∈ BG := bg_4 (List.mem_of_getElem? (l := tables_1_4) (i := 221) rfl) rfl
theorem kw_567 : Cond.instanceMethod yX7_shifts ∈ BG := bg_4 (List.mem_of_getElem? (l := tables_1_4) (i := 222) rfl) rfl
theorem kw_568 : Cond.selects RX7 yX7_shifts yX7_shifts ∈ BG := bg_4 (List.mem_of_getElem? (l := tables_1_4) (i := 223) rfl) rfl
theorem kw_569 : Cond.code yX7_shifts cX7_shifts 2 (some .int) ∈ BG := bg_4 (List.mem_of_getElem? (l := tables_1_4) (i := 224) rfl) rfl
theorem kw_570 : Cond.methodLink RX7 181 yX7_looks ∈ BG := bg_4 (List.mem_of_getElem? (l := tables_1_4) (i := 225) rfl) rfl
theorem kw_571 : Cond.instanceMethod yX7_looks ∈ BG := bg_4 (List.mem_of_getElem? (l := tables_1_4) (i := 227) rfl) rfl
theorem kw_572 : Cond.selects RX7 yX7_looks yX7_looks ∈ BG := bg_0 (List.mem_of_getElem? (l := k2_sels lw_privs) (i := 33) rfl) rfl
theorem kw_573 : Cond.code yX7_looks cX7_looks 2 (some .boolean) ∈ BG := bg_4 (List.mem_of_getElem? (l := tables_1_4) (i := 228) rfl) rfl
theorem kw_574 : Cond.methodLink RL 166 yL_shiftBegin ∈ BG := bg_3 (List.mem_of_getElem? (l := tables_1_3) (i := 110) rfl) rfl
theorem kw_575 : Cond.static yL_shiftBegin ∈ BG := bg_3 (List.mem_of_getElem? (l := tables_1_3) (i := 111) rfl) rfl
theorem kw_576 : Cond.codeWith yL_shiftBegin cL_shiftBegin 5 (some .int) [(0, 10, 13, 21)] ∈ BG := bg_3 (List.mem_of_getElem? (l := tables_1_3) (i := 112) rfl) rfl
theorem kw_577 : Cond.methodLink RL 66 yX6_shiftBegin ∈ BG := bg_3 (List.mem_of_getElem? (l := tables_1_3) (i := 113) rfl) rfl
theorem kw_578 : Cond.instanceMethod yX6_shiftBegin ∈ BG := bg_3 (List.mem_of_getElem? (l := tables_1_3) (i := 114) rfl) rfl
theorem kw_579 : Cond.selects RX6 yX6_shiftBegin yX6_shiftBegin ∈ BG := bg_3 (List.mem_of_getElem? (l := tables_1_3) (i := 115) rfl) rfl
theorem kw_580 : Cond.code yX6_shiftBegin cX6_shiftBegin 3 (some .int) ∈ BG := bg_3 (List.mem_of_getElem? (l := tables_1_3) (i := 116) rfl) rfl
theorem kw_581 : Cond.methodLink RL 168 yX7_shiftBegin ∈ BG := bg_4 (List.mem_of_getElem? (l := tables_1_4) (i := 229) rfl) rfl
theorem kw_582 : Cond.instanceMethod yX7_shiftBegin ∈ BG := bg_4 (List.mem_of_getElem? (l := tables_1_4) (i := 230) rfl) rfl
theorem kw_583 : Cond.selects RX7 yX7_shiftBegin yX7_shiftBegin ∈ BG := bg_4 (List.mem_of_getElem? (l := tables_1_4) (i := 231) rfl) rfl
theorem kw_584 : Cond.code yX7_shiftBegin cX7_shiftBegin 4 (some .int) ∈ BG := bg_4 (List.mem_of_getElem? (l := tables_1_4) (i := 232) rfl) rfl
theorem kw_585 : Cond.methodLink RL 169 yL_shiftEnd ∈ BG := bg_3 (List.mem_of_getElem? (l := tables_1_3) (i := 117) rfl) rfl
theorem kw_586 : Cond.static yL_shiftEnd ∈ BG := bg_3 (List.mem_of_getElem? (l := tables_1_3) (i := 118) rfl) rfl
theorem kw_587 : Cond.codeWith yL_shiftEnd cL_shiftEnd 5 (some .int) [(0, 10, 13, 21)] ∈ BG := bg_3 (List.mem_of_getElem? (l := tables_1_3) (i := 119) rfl) rfl
theorem kw_588 : Cond.methodLink RL 69 yX6_shiftEnd ∈ BG := bg_3 (List.mem_of_getElem? (l := tables_1_3) (i := 120) rfl) rfl
theorem kw_589 : Cond.instanceMethod yX6_shiftEnd ∈ BG := bg_3 (List.mem_of_getElem? (l := tables_1_3) (i := 121) rfl) rfl
theorem kw_590 : Cond.selects RX6 yX6_shiftEnd yX6_shiftEnd ∈ BG := bg_3 (List.mem_of_getElem? (l := tables_1_3) (i := 122) rfl) rfl
theorem kw_591 : Cond.code yX6_shiftEnd cX6_shiftEnd 3 (some .int) ∈ BG := bg_3 (List.mem_of_getElem? (l := tables_1_3) (i := 123) rfl) rfl
theorem kw_592 : Cond.methodLink RL 171 yX7_shiftEnd ∈ BG := bg_4 (List.mem_of_getElem? (l := tables_1_4) (i := 233) rfl) rfl
theorem kw_593 : Cond.instanceMethod yX7_shiftEnd ∈ BG := bg_4 (List.mem_of_getElem? (l := tables_1_4) (i := 234) rfl) rfl
theorem kw_594 : Cond.selects RX7 yX7_shiftEnd yX7_shiftEnd ∈ BG := bg_4 (List.mem_of_getElem? (l := tables_1_4) (i := 235) rfl) rfl
theorem kw_595 : Cond.code yX7_shiftEnd cX7_shiftEnd 4 (some .int) ∈ BG := bg_4 (List.mem_of_getElem? (l := tables_1_4) (i := 236) rfl) rfl
theorem kw_596 : Cond.methodLink RL 172 yL_repairedShifts ∈ BG := bg_3 (List.mem_of_getElem? (l := tables_1_3) (i := 124) rfl) rfl
theorem kw_597 : Cond.static yL_repairedShifts ∈ BG := bg_3 (List.mem_of_getElem? (l := tables_1_3) (i := 125) rfl) rfl
theorem kw_598 : Cond.codeWith yL_repairedShifts cL_repairedShifts 4 (some .int) [(0, 9, 12, 21)] ∈ BG := bg_3 (List.mem_of_getElem? (l := tables_1_3) (i := 126) rfl) rfl
theorem kw_599 : Cond.methodLink RL 72 yX6_repairedShifts ∈ BG := bg_3 (List.mem_of_getElem? (l := tables_1_3) (i := 127) rfl) rfl
theorem kw_600 : Cond.instanceMethod yX6_repairedShifts ∈ BG := bg_3 (List.mem_of_getElem? (l := tables_1_3) (i := 128) rfl) rfl
theorem kw_601 : Cond.selects RX6 yX6_repairedShifts yX6_repairedShifts ∈ BG := bg_3 (List.mem_of_getElem? (l := tables_1_3) (i := 129) rfl) rfl
theorem kw_602 : Cond.code yX6_repairedShifts cX6_repairedShifts 2 (some .int) ∈ BG := bg_3 (List.mem_of_getElem? (l := tables_1_3) (i := 130) rfl) rfl
theorem kw_603 : Cond.methodLink RL 174 yX7_repairedShifts ∈ BG := bg_4 (List.mem_of_getElem? (l := tables_1_4) (i := 237) rfl) rfl
theorem kw_604 : Cond.instanceMethod yX7_repairedShifts ∈ BG := bg_4 (List.mem_of_getElem? (l := tables_1_4) (i := 238) rfl) rfl
theorem kw_605 : Cond.selects RX7 yX7_repairedShifts yX7_repairedShifts ∈ BG := bg_4 (List.mem_of_getElem? (l := tables_1_4) (i := 239) rfl) rfl
theorem kw_606 : Cond.code yX7_repairedShifts cX7_repairedShifts 2 (some .int) ∈ BG := bg_5 (List.mem_of_getElem? (l := tables_1_5) (i := 0) rfl) rfl
theorem kw_607 : Cond.methodLink RL 175 yL_coverage ∈ BG := bg_3 (List.mem_of_getElem? (l := tables_1_3) (i := 131) rfl) rfl
theorem kw_608 : Cond.static yL_coverage ∈ BG := bg_3 (List.mem_of_getElem? (l := tables_1_3) (i := 132) rfl) rfl
theorem kw_609 : Cond.codeWith yL_coverage cL_coverage 5 (some .int) [(0, 10, 13, 21), (0, 10, 17, 13)] ∈ BG := bg_3 (List.mem_of_getElem? (l := tables_1_3) (i := 133) rfl) rfl
theorem kw_610 : Cond.methodLink RL 75 yX6_coverage ∈ BG := bg_3 (List.mem_of_getElem? (l := tables_1_3) (i := 134) rfl) rfl
theorem kw_611 : Cond.instanceMethod yX6_coverage ∈ BG := bg_3 (List.mem_of_getElem? (l := tables_1_3) (i := 135) rfl) rfl
theorem kw_612 : Cond.selects RX6 yX6_coverage yX6_coverage ∈ BG := bg_3 (List.mem_of_getElem? (l := tables_1_3) (i := 136) rfl) rfl
theorem kw_613 : Cond.code yX6_coverage cX6_coverage 4 (some .int) ∈ BG := bg_3 (List.mem_of_getElem? (l := tables_1_3) (i := 137) rfl) rfl
theorem kw_614 : Cond.methodLink RX6 170 yX6_countContaining ∈ BG := bg_3 (List.mem_of_getElem? (l := tables_1_3) (i := 138) rfl) rfl
theorem kw_615 : Cond.static yX6_countContaining ∈ BG := bg_3 (List.mem_of_getElem? (l := tables_1_3) (i := 139) rfl) rfl
theorem kw_616 : Cond.code yX6_countContaining cX6_countContaining 4 (some .int) ∈ BG := bg_3 (List.mem_of_getElem? (l := tables_1_3) (i := 140) rfl) rfl
theorem kw_617 : Cond.methodLink RL 177 yX7_coverage ∈ BG := bg_5 (List.mem_of_getElem? (l := tables_1_5) (i := 1) rfl) rfl
theorem kw_618 : Cond.instanceMethod yX7_coverage ∈ BG := bg_5 (List.mem_of_getElem? (l := tables_1_5) (i := 2) rfl) rfl
theorem kw_619 : Cond.selects RX7 yX7_coverage yX7_coverage ∈ BG := bg_5 (List.mem_of_getElem? (l := tables_1_5) (i := 3) rfl) rfl
theorem kw_620 : Cond.code yX7_coverage cX7_coverage 4 (some .int) ∈ BG := bg_5 (List.mem_of_getElem? (l := tables_1_5) (i := 4) rfl) rfl
theorem kw_621 : Cond.methodLink RL 178 yL_overlap ∈ BG := bg_3 (List.mem_of_getElem? (l := tables_1_3) (i := 141) rfl) rfl
theorem kw_622 : Cond.static yL_overlap ∈ BG := bg_3 (List.mem_of_getElem? (l := tables_1_3) (i := 142) rfl) rfl
theorem kw_623 : Cond.codeWith yL_overlap cL_overlap 4 (some .int) [(0, 9, 12, 21)] ∈ BG := bg_3 (List.mem_of_getElem? (l := tables_1_3) (i := 143) rfl) rfl
theorem kw_624 : Cond.methodLink RL 78 yX6_overlap ∈ BG := bg_3 (List.mem_of_getElem? (l := tables_1_3) (i := 144) rfl) rfl
theorem kw_625 : Cond.instanceMethod yX6_overlap ∈ BG := bg_3 (List.mem_of_getElem? (l := tables_1_3) (i := 145) rfl) rfl
theorem kw_626 : Cond.selects RX6 yX6_overlap yX6_overlap ∈ BG := bg_3 (List.mem_of_getElem? (l := tables_1_3) (i := 146) rfl) rfl
theorem kw_627 : Cond.code yX6_overlap cX6_overlap 2 (some .int) ∈ BG := bg_3 (List.mem_of_getElem? (l := tables_1_3) (i := 147) rfl) rfl
theorem kw_628 : Cond.methodLink RX6 173 yX5_read ∈ BG := bg_3 (List.mem_of_getElem? (l := tables_1_3) (i := 148) rfl) rfl
theorem kw_629 : Cond.methodLink RL 180 yX7_overlap ∈ BG := bg_5 (List.mem_of_getElem? (l := tables_1_5) (i := 5) rfl) rfl
theorem kw_630 : Cond.instanceMethod yX7_overlap ∈ BG := bg_5 (List.mem_of_getElem? (l := tables_1_5) (i := 6) rfl) rfl
theorem kw_631 : Cond.selects RX7 yX7_overlap yX7_overlap ∈ BG := bg_5 (List.mem_of_getElem? (l := tables_1_5) (i := 7) rfl) rfl
theorem kw_632 : Cond.code yX7_overlap cX7_overlap 2 (some .int) ∈ BG := bg_5 (List.mem_of_getElem? (l := tables_1_5) (i := 8) rfl) rfl
theorem kw_633 : Cond.methodLink RL 181 yL_workedOn ∈ BG := bg_3 (List.mem_of_getElem? (l := tables_1_3) (i := 149) rfl) rfl
theorem kw_634 : Cond.static yL_workedOn ∈ BG := bg_3 (List.mem_of_getElem? (l := tables_1_3) (i := 150) rfl) rfl
theorem kw_635 : Cond.codeWith yL_workedOn cL_workedOn 5 (some .int) [(0, 10, 13, 21), (0, 10, 17, 13)] ∈ BG := bg_3 (List.mem_of_getElem? (l := tables_1_3) (i := 151) rfl) rfl
theorem kw_636 : Cond.methodLink RL 81 yX6_workedOn ∈ BG := bg_3 (List.mem_of_getElem? (l := tables_1_3) (i := 152) rfl) rfl
theorem kw_637 : Cond.instanceMethod yX6_workedOn ∈ BG := bg_3 (List.mem_of_getElem? (l := tables_1_3) (i := 153) rfl) rfl
theorem kw_638 : Cond.selects RX6 yX6_workedOn yX6_workedOn ∈ BG := bg_3 (List.mem_of_getElem? (l := tables_1_3) (i := 154) rfl) rfl
theorem kw_639 : Cond.code yX6_workedOn cX6_workedOn 4 (some .int) ∈ BG := bg_3 (List.mem_of_getElem? (l := tables_1_3) (i := 155) rfl) rfl
theorem kw_640 : Cond.methodLink RX6 180 yX6_minutesOnDay ∈ BG := bg_3 (List.mem_of_getElem? (l := tables_1_3) (i := 156) rfl) rfl
theorem kw_641 : Cond.methodLink RL 183 yX7_workedOn ∈ BG := bg_5 (List.mem_of_getElem? (l := tables_1_5) (i := 9) rfl) rfl
theorem kw_642 : Cond.instanceMethod yX7_workedOn ∈ BG := bg_5 (List.mem_of_getElem? (l := tables_1_5) (i := 10) rfl) rfl
theorem kw_643 : Cond.selects RX7 yX7_workedOn yX7_workedOn ∈ BG := bg_5 (List.mem_of_getElem? (l := tables_1_5) (i := 11) rfl) rfl
theorem kw_644 : Cond.code yX7_workedOn cX7_workedOn 4 (some .int) ∈ BG := bg_5 (List.mem_of_getElem? (l := tables_1_5) (i := 12) rfl) rfl
theorem kw_645 : Cond.methodLink RL 184 yL_stretches ∈ BG := bg_3 (List.mem_of_getElem? (l := tables_1_3) (i := 157) rfl) rfl
theorem kw_646 : Cond.static yL_stretches ∈ BG := bg_3 (List.mem_of_getElem? (l := tables_1_3) (i := 158) rfl) rfl
theorem kw_647 : Cond.codeWith yL_stretches cL_stretches 4 (some .int) [(0, 9, 12, 21)] ∈ BG := bg_3 (List.mem_of_getElem? (l := tables_1_3) (i := 159) rfl) rfl
theorem kw_648 : Cond.methodLink RL 84 yX6_stretches ∈ BG := bg_3 (List.mem_of_getElem? (l := tables_1_3) (i := 160) rfl) rfl
theorem kw_649 : Cond.instanceMethod yX6_stretches ∈ BG := bg_3 (List.mem_of_getElem? (l := tables_1_3) (i := 161) rfl) rfl
theorem kw_650 : Cond.selects RX6 yX6_stretches yX6_stretches ∈ BG := bg_3 (List.mem_of_getElem? (l := tables_1_3) (i := 162) rfl) rfl
theorem kw_651 : Cond.code yX6_stretches cX6_stretches 2 (some .int) ∈ BG := bg_3 (List.mem_of_getElem? (l := tables_1_3) (i := 163) rfl) rfl
theorem kw_652 : Cond.methodLink RL 186 yX7_stretches ∈ BG := bg_5 (List.mem_of_getElem? (l := tables_1_5) (i := 13) rfl) rfl
theorem kw_653 : Cond.instanceMethod yX7_stretches ∈ BG := bg_5 (List.mem_of_getElem? (l := tables_1_5) (i := 14) rfl) rfl
theorem kw_654 : Cond.selects RX7 yX7_stretches yX7_stretches ∈ BG := bg_5 (List.mem_of_getElem? (l := tables_1_5) (i := 15) rfl) rfl
theorem kw_655 : Cond.code yX7_stretches cX7_stretches 2 (some .int) ∈ BG := bg_5 (List.mem_of_getElem? (l := tables_1_5) (i := 16) rfl) rfl
theorem kw_656 : Cond.methodLink RL 187 yL_longestStretch ∈ BG := bg_3 (List.mem_of_getElem? (l := tables_1_3) (i := 164) rfl) rfl
theorem kw_657 : Cond.static yL_longestStretch ∈ BG := bg_3 (List.mem_of_getElem? (l := tables_1_3) (i := 165) rfl) rfl
theorem kw_658 : Cond.codeWith yL_longestStretch cL_longestStretch 4 (some .int) [(0, 9, 12, 21)] ∈ BG := bg_3 (List.mem_of_getElem? (l := tables_1_3) (i := 166) rfl) rfl
theorem kw_659 : Cond.methodLink RL 87 yX6_longestStretch ∈ BG := bg_3 (List.mem_of_getElem? (l := tables_1_3) (i := 167) rfl) rfl
theorem kw_660 : Cond.instanceMethod yX6_longestStretch ∈ BG := bg_3 (List.mem_of_getElem? (l := tables_1_3) (i := 168) rfl) rfl
theorem kw_661 : Cond.selects RX6 yX6_longestStretch yX6_longestStretch ∈ BG := bg_3 (List.mem_of_getElem? (l := tables_1_3) (i := 169) rfl) rfl
theorem kw_662 : Cond.code yX6_longestStretch cX6_longestStretch 2 (some .int) ∈ BG := bg_3 (List.mem_of_getElem? (l := tables_1_3) (i := 170) rfl) rfl
theorem kw_663 : Cond.methodLink RX6 183 yX6_longest ∈ BG := bg_3 (List.mem_of_getElem? (l := tables_1_3) (i := 171) rfl) rfl
theorem kw_664 : Cond.static yX6_longest ∈ BG := bg_3 (List.mem_of_getElem? (l := tables_1_3) (i := 172) rfl) rfl
theorem kw_665 : Cond.code yX6_longest cX6_longest 3 (some .int) ∈ BG := bg_3 (List.mem_of_getElem? (l := tables_1_3) (i := 173) rfl) rfl
theorem kw_666 : Cond.methodLink RL 189 yX7_longestStretch ∈ BG := bg_5 (List.mem_of_getElem? (l := tables_1_5) (i := 17) rfl) rfl
theorem kw_667 : Cond.instanceMethod yX7_longestStretch ∈ BG := bg_5 (List.mem_of_getElem? (l := tables_1_5) (i := 18) rfl) rfl
theorem kw_668 : Cond.selects RX7 yX7_longestStretch yX7_longestStretch ∈ BG := bg_5 (List.mem_of_getElem? (l := tables_1_5) (i := 19) rfl) rfl
theorem kw_669 : Cond.code yX7_longestStretch cX7_longestStretch 2 (some .int) ∈ BG := bg_5 (List.mem_of_getElem? (l := tables_1_5) (i := 20) rfl) rfl
theorem kw_670 : Cond.methodLink RL 190 yL_category ∈ BG := bg_3 (List.mem_of_getElem? (l := tables_1_3) (i := 174) rfl) rfl
theorem kw_671 : Cond.static yL_category ∈ BG := bg_3 (List.mem_of_getElem? (l := tables_1_3) (i := 175) rfl) rfl
theorem kw_672 : Cond.codeWith yL_category cL_category 5 (some .int) [(0, 10, 13, 21), (0, 10, 17, 13)] ∈ BG := bg_3 (List.mem_of_getElem? (l := tables_1_3) (i := 176) rfl) rfl
theorem kw_673 : Cond.methodLink RL 90 yX6_category ∈ BG := bg_3 (List.mem_of_getElem? (l := tables_1_3) (i := 177) rfl) rfl
theorem kw_674 : Cond.instanceMethod yX6_category ∈ BG := bg_3 (List.mem_of_getElem? (l := tables_1_3) (i := 178) rfl) rfl
theorem kw_675 : Cond.selects RX6 yX6_category yX6_category ∈ BG := bg_3 (List.mem_of_getElem? (l := tables_1_3) (i := 179) rfl) rfl
theorem kw_676 : Cond.code yX6_category cX6_category 4 (some .int) ∈ BG := bg_3 (List.mem_of_getElem? (l := tables_1_3) (i := 180) rfl) rfl
theorem kw_677 : Cond.methodLink RX6 186 yX1_categoryAt ∈ BG := bg_3 (List.mem_of_getElem? (l := tables_1_3) (i := 181) rfl) rfl
theorem kw_678 : Cond.instanceMethod yX1_categoryAt ∈ BG := bg_3 (List.mem_of_getElem? (l := tables_1_3) (i := 182) rfl) rfl
theorem kw_679 : Cond.selects RX1 yX1_categoryAt yX1_categoryAt ∈ BG := bg_3 (List.mem_of_getElem? (l := tables_1_3) (i := 183) rfl) rfl
theorem kw_680 : Cond.code yX1_categoryAt cX1_categoryAt 4 (some .int) ∈ BG := bg_3 (List.mem_of_getElem? (l := tables_1_3) (i := 184) rfl) rfl
theorem kw_681 : Cond.methodLink RL 192 yX7_category ∈ BG := bg_5 (List.mem_of_getElem? (l := tables_1_5) (i := 21) rfl) rfl
theorem kw_682 : Cond.instanceMethod yX7_category ∈ BG := bg_5 (List.mem_of_getElem? (l := tables_1_5) (i := 22) rfl) rfl
theorem kw_683 : Cond.selects RX7 yX7_category yX7_category ∈ BG := bg_5 (List.mem_of_getElem? (l := tables_1_5) (i := 23) rfl) rfl
theorem kw_684 : Cond.code yX7_category cX7_category 4 (some .int) ∈ BG := bg_5 (List.mem_of_getElem? (l := tables_1_5) (i := 24) rfl) rfl
theorem kw_685 : Cond.methodLink RL 193 yL_minutes ∈ BG := bg_3 (List.mem_of_getElem? (l := tables_1_3) (i := 185) rfl) rfl
theorem kw_686 : Cond.static yL_minutes ∈ BG := bg_3 (List.mem_of_getElem? (l := tables_1_3) (i := 186) rfl) rfl
theorem kw_687 : Cond.codeWith yL_minutes cL_minutes 6 (some .int) [(0, 12, 15, 21), (0, 12, 19, 13)] ∈ BG := bg_3 (List.mem_of_getElem? (l := tables_1_3) (i := 187) rfl) rfl
theorem kw_688 : Cond.methodLink RL 93 yX6_minutes ∈ BG := bg_3 (List.mem_of_getElem? (l := tables_1_3) (i := 188) rfl) rfl
theorem kw_689 : Cond.instanceMethod yX6_minutes ∈ BG := bg_3 (List.mem_of_getElem? (l := tables_1_3) (i := 189) rfl) rfl
theorem kw_690 : Cond.selects RX6 yX6_minutes yX6_minutes ∈ BG := bg_3 (List.mem_of_getElem? (l := tables_1_3) (i := 190) rfl) rfl
theorem kw_691 : Cond.code yX6_minutes cX6_minutes 5 (some .int) ∈ BG := bg_3 (List.mem_of_getElem? (l := tables_1_3) (i := 191) rfl) rfl
theorem kw_692 : Cond.methodLink RX6 189 yX1_minutesOf ∈ BG := bg_3 (List.mem_of_getElem? (l := tables_1_3) (i := 192) rfl) rfl
theorem kw_693 : Cond.methodLink RL 195 yX7_minutes ∈ BG := bg_5 (List.mem_of_getElem? (l := tables_1_5) (i := 25) rfl) rfl
theorem kw_694 : Cond.instanceMethod yX7_minutes ∈ BG := bg_5 (List.mem_of_getElem? (l := tables_1_5) (i := 26) rfl) rfl
theorem kw_695 : Cond.selects RX7 yX7_minutes yX7_minutes ∈ BG := bg_5 (List.mem_of_getElem? (l := tables_1_5) (i := 27) rfl) rfl
theorem kw_696 : Cond.code yX7_minutes cX7_minutes 4 (some .int) ∈ BG := bg_5 (List.mem_of_getElem? (l := tables_1_5) (i := 28) rfl) rfl
theorem kw_697 : Cond.methodLink RX7 184 yX7_told ∈ BG := bg_5 (List.mem_of_getElem? (l := tables_1_5) (i := 29) rfl) rfl
theorem kw_698 : Cond.instanceMethod yX7_told ∈ BG := bg_5 (List.mem_of_getElem? (l := tables_1_5) (i := 31) rfl) rfl
theorem kw_699 : Cond.selects RX7 yX7_told yX7_told ∈ BG := bg_0 (List.mem_of_getElem? (l := k2_sels lw_privs) (i := 34) rfl) rfl
theorem kw_700 : Cond.code yX7_told cX7_told 6 (some .int) ∈ BG := bg_5 (List.mem_of_getElem? (l := tables_1_5) (i := 32) rfl) rfl
theorem kw_701 : Cond.methodLink RL 196 yL_quarters ∈ BG := bg_3 (List.mem_of_getElem? (l := tables_1_3) (i := 193) rfl) rfl
theorem kw_702 : Cond.static yL_quarters ∈ BG := bg_3 (List.mem_of_getElem? (l := tables_1_3) (i := 194) rfl) rfl
theorem kw_703 : Cond.codeWith yL_quarters cL_quarters 6 (some .int) [(0, 12, 15, 21), (0, 12, 19, 13)] ∈ BG := bg_3 (List.mem_of_getElem? (l := tables_1_3) (i := 195) rfl) rfl
theorem kw_704 : Cond.methodLink RL 96 yX6_quarters ∈ BG := bg_3 (List.mem_of_getElem? (l := tables_1_3) (i := 196) rfl) rfl
theorem kw_705 : Cond.instanceMethod yX6_quarters ∈ BG := bg_3 (List.mem_of_getElem? (l := tables_1_3) (i := 197) rfl) rfl
theorem kw_706 : Cond.selects RX6 yX6_quarters yX6_quarters ∈ BG := bg_3 (List.mem_of_getElem? (l := tables_1_3) (i := 198) rfl) rfl
theorem kw_707 : Cond.code yX6_quarters cX6_quarters 5 (some .int) ∈ BG := bg_3 (List.mem_of_getElem? (l := tables_1_3) (i := 199) rfl) rfl
theorem kw_708 : Cond.methodLink RX6 192 yX1_quartersOf ∈ BG := bg_3 (List.mem_of_getElem? (l := tables_1_3) (i := 200) rfl) rfl
theorem kw_709 : Cond.instanceMethod yX1_quartersOf ∈ BG := bg_3 (List.mem_of_getElem? (l := tables_1_3) (i := 201) rfl) rfl
theorem kw_710 : Cond.selects RX1 yX1_quartersOf yX1_quartersOf ∈ BG := bg_3 (List.mem_of_getElem? (l := tables_1_3) (i := 202) rfl) rfl
theorem kw_711 : Cond.code yX1_quartersOf cX1_quartersOf 9 (some .int) ∈ BG := bg_3 (List.mem_of_getElem? (l := tables_1_3) (i := 203) rfl) rfl
theorem kw_712 : Cond.methodLink RL 198 yX7_quarters ∈ BG := bg_5 (List.mem_of_getElem? (l := tables_1_5) (i := 33) rfl) rfl
theorem kw_713 : Cond.instanceMethod yX7_quarters ∈ BG := bg_5 (List.mem_of_getElem? (l := tables_1_5) (i := 34) rfl) rfl
theorem kw_714 : Cond.selects RX7 yX7_quarters yX7_quarters ∈ BG := bg_5 (List.mem_of_getElem? (l := tables_1_5) (i := 35) rfl) rfl
theorem kw_715 : Cond.code yX7_quarters cX7_quarters 4 (some .int) ∈ BG := bg_5 (List.mem_of_getElem? (l := tables_1_5) (i := 36) rfl) rfl
theorem kw_716 : Cond.methodLink RL 199 yL_premiumPay ∈ BG := bg_3 (List.mem_of_getElem? (l := tables_1_3) (i := 204) rfl) rfl
theorem kw_717 : Cond.static yL_premiumPay ∈ BG := bg_3 (List.mem_of_getElem? (l := tables_1_3) (i := 205) rfl) rfl
theorem kw_718 : Cond.codeWith yL_premiumPay cL_premiumPay 4 (some .int) [(0, 9, 12, 21)] ∈ BG := bg_3 (List.mem_of_getElem? (l := tables_1_3) (i := 206) rfl) rfl
theorem kw_719 : Cond.methodLink RL 99 yX6_premiumPay ∈ BG := bg_3 (List.mem_of_getElem? (l := tables_1_3) (i := 207) rfl) rfl
theorem kw_720 : Cond.instanceMethod yX6_premiumPay ∈ BG := bg_3 (List.mem_of_getElem? (l := tables_1_3) (i := 208) rfl) rfl
theorem kw_721 : Cond.selects RX6 yX6_premiumPay yX6_premiumPay ∈ BG := bg_3 (List.mem_of_getElem? (l := tables_1_3) (i := 209) rfl) rfl
theorem kw_722 : Cond.code yX6_premiumPay cX6_premiumPay 2 (some .int) ∈ BG := bg_3 (List.mem_of_getElem? (l := tables_1_3) (i := 210) rfl) rfl
theorem kw_723 : Cond.methodLink RL 201 yX7_premiumPay ∈ BG := bg_5 (List.mem_of_getElem? (l := tables_1_5) (i := 37) rfl) rfl
theorem kw_724 : Cond.instanceMethod yX7_premiumPay ∈ BG := bg_5 (List.mem_of_getElem? (l := tables_1_5) (i := 38) rfl) rfl
theorem kw_725 : Cond.selects RX7 yX7_premiumPay yX7_premiumPay ∈ BG := bg_5 (List.mem_of_getElem? (l := tables_1_5) (i := 39) rfl) rfl
theorem kw_726 : Cond.code yX7_premiumPay cX7_premiumPay 2 (some .int) ∈ BG := bg_5 (List.mem_of_getElem? (l := tables_1_5) (i := 40) rfl) rfl
theorem kw_727 : Cond.methodLink RL 202 yL_pay ∈ BG := bg_3 (List.mem_of_getElem? (l := tables_1_3) (i := 211) rfl) rfl
theorem kw_728 : Cond.static yL_pay ∈ BG := bg_3 (List.mem_of_getElem? (l := tables_1_3) (i := 212) rfl) rfl
theorem kw_729 : Cond.codeWith yL_pay cL_pay 4 (some .int) [(0, 9, 12, 21)] ∈ BG := bg_3 (List.mem_of_getElem? (l := tables_1_3) (i := 213) rfl) rfl
theorem kw_730 : Cond.methodLink RL 102 yX6_pay ∈ BG := bg_3 (List.mem_of_getElem? (l := tables_1_3) (i := 214) rfl) rfl
theorem kw_731 : Cond.instanceMethod yX6_pay ∈ BG := bg_3 (List.mem_of_getElem? (l := tables_1_3) (i := 215) rfl) rfl
theorem kw_732 : Cond.selects RX6 yX6_pay yX6_pay ∈ BG := bg_3 (List.mem_of_getElem? (l := tables_1_3) (i := 216) rfl) rfl
theorem kw_733 : Cond.code yX6_pay cX6_pay 3 (some .int) ∈ BG := bg_3 (List.mem_of_getElem? (l := tables_1_3) (i := 217) rfl) rfl
theorem kw_734 : Cond.methodLink RL 204 yX7_pay ∈ BG := bg_5 (List.mem_of_getElem? (l := tables_1_5) (i := 41) rfl) rfl
theorem kw_735 : Cond.instanceMethod yX7_pay ∈ BG := bg_5 (List.mem_of_getElem? (l := tables_1_5) (i := 42) rfl) rfl
theorem kw_736 : Cond.selects RX7 yX7_pay yX7_pay ∈ BG := bg_5 (List.mem_of_getElem? (l := tables_1_5) (i := 43) rfl) rfl
theorem kw_737 : Cond.code yX7_pay cX7_pay 2 (some .int) ∈ BG := bg_5 (List.mem_of_getElem? (l := tables_1_5) (i := 44) rfl) rfl
theorem in_X0 : ∀ w ∈ u_ws RX0 TX0 6, w ∈ BG := by
  show ∀ w ∈ [Cond.lays "Timesheets$Employee" "Timesheets$Employee" "wage" "I", Cond.lays "Timesheets$Employee" "Timesheets$Employee" "weeksClosed" "I", Cond.lays "Timesheets$Employee" "Timesheets$Employee" "earnings" "J", Cond.laysFinal "Timesheets$Employee" "Timesheets$Employee" "punches" "LTimesheets$Table;", Cond.laysFinal "Timesheets$Employee" "Timesheets$Employee" "entries" "LTimesheets$Table;", Cond.laysFinal "Timesheets$Employee" "Timesheets$Employee" "breaks" "LTimesheets$Table;"], w ∈ BG
  exact List.forall_mem_cons.mpr ⟨bg_2 (List.mem_of_getElem? (l := tables_1_2) (i := 21) rfl) rfl, List.forall_mem_cons.mpr ⟨bg_2 (List.mem_of_getElem? (l := tables_1_2) (i := 23) rfl) rfl, List.forall_mem_cons.mpr ⟨bg_2 (List.mem_of_getElem? (l := tables_1_2) (i := 25) rfl) rfl, List.forall_mem_cons.mpr ⟨bg_2 (List.mem_of_getElem? (l := tables_1_2) (i := 27) rfl) rfl, List.forall_mem_cons.mpr ⟨bg_2 (List.mem_of_getElem? (l := tables_1_2) (i := 29) rfl) rfl, List.forall_mem_cons.mpr ⟨bg_2 (List.mem_of_getElem? (l := tables_1_2) (i := 31) rfl) rfl, (fun _ h => absurd h List.not_mem_nil)⟩⟩⟩⟩⟩⟩
theorem in_X1 : ∀ w ∈ u_ws RX1 TX1 3, w ∈ BG := by
  show ∀ w ∈ [Cond.laysFinal "Timesheets$Payroll" "Timesheets$Payroll" "timeline" "LTimesheets$Timeline;", Cond.laysFinal "Timesheets$Payroll" "Timesheets$Payroll" "paid" "LTimesheets$Table;", Cond.laysFinal "Timesheets$Payroll" "Timesheets$Payroll" "parts" "LTimesheets$Table;"], w ∈ BG
  exact List.forall_mem_cons.mpr ⟨bg_1 (List.mem_of_getElem? (l := tables_1_1) (i := 111) rfl) rfl, List.forall_mem_cons.mpr ⟨bg_1 (List.mem_of_getElem? (l := tables_1_1) (i := 113) rfl) rfl, List.forall_mem_cons.mpr ⟨bg_1 (List.mem_of_getElem? (l := tables_1_1) (i := 115) rfl) rfl, (fun _ h => absurd h List.not_mem_nil)⟩⟩⟩
theorem in_X2 : ∀ w ∈ u_ws RX2 TX2 1, w ∈ BG := by
  show ∀ w ∈ [Cond.laysFinal "Timesheets$Premiums" "Timesheets$Premiums" "rows" "LTimesheets$Table;"], w ∈ BG
  exact List.forall_mem_cons.mpr ⟨bg_1 (List.mem_of_getElem? (l := tables_1_1) (i := 52) rfl) rfl, (fun _ h => absurd h List.not_mem_nil)⟩
theorem in_X3 : ∀ w ∈ u_ws RX3 TX3 2, w ∈ BG := by
  show ∀ w ∈ [Cond.laysFinal "Timesheets$Shifts" "Timesheets$Shifts" "spans" "LTimesheets$Table;", Cond.lays "Timesheets$Shifts" "Timesheets$Shifts" "repaired" "I"], w ∈ BG
  exact List.forall_mem_cons.mpr ⟨bg_1 (List.mem_of_getElem? (l := tables_1_1) (i := 80) rfl) rfl, List.forall_mem_cons.mpr ⟨bg_1 (List.mem_of_getElem? (l := tables_1_1) (i := 82) rfl) rfl, (fun _ h => absurd h List.not_mem_nil)⟩⟩
theorem in_X4 : ∀ w ∈ u_ws RX4 TX4 3, w ∈ BG := by
  show ∀ w ∈ [Cond.laysFinal "Timesheets$Table" "Timesheets$Table" "width" "I", Cond.laysFinal "Timesheets$Table" "Timesheets$Table" "cells" "[I", Cond.lays "Timesheets$Table" "Timesheets$Table" "rows" "I"], w ∈ BG
  exact List.forall_mem_cons.mpr ⟨bg_1 (List.mem_of_getElem? (l := tables_1_1) (i := 42) rfl) rfl, List.forall_mem_cons.mpr ⟨bg_1 (List.mem_of_getElem? (l := tables_1_1) (i := 44) rfl) rfl, List.forall_mem_cons.mpr ⟨bg_1 (List.mem_of_getElem? (l := tables_1_1) (i := 46) rfl) rfl, (fun _ h => absurd h List.not_mem_nil)⟩⟩⟩
theorem in_X5 : ∀ w ∈ u_ws RX5 TX5 4, w ∈ BG := by
  show ∀ w ∈ [Cond.laysFinal "Timesheets$Timeline" "Timesheets$Timeline" "shiftList" "LTimesheets$Shifts;", Cond.laysFinal "Timesheets$Timeline" "Timesheets$Timeline" "events" "LTimesheets$Table;", Cond.laysFinal "Timesheets$Timeline" "Timesheets$Timeline" "stretchList" "LTimesheets$Table;", Cond.lays "Timesheets$Timeline" "Timesheets$Timeline" "coveredTwice" "I"], w ∈ BG
  exact List.forall_mem_cons.mpr ⟨bg_1 (List.mem_of_getElem? (l := tables_1_1) (i := 95) rfl) rfl, List.forall_mem_cons.mpr ⟨bg_1 (List.mem_of_getElem? (l := tables_1_1) (i := 97) rfl) rfl, List.forall_mem_cons.mpr ⟨bg_1 (List.mem_of_getElem? (l := tables_1_1) (i := 99) rfl) rfl, List.forall_mem_cons.mpr ⟨bg_1 (List.mem_of_getElem? (l := tables_1_1) (i := 101) rfl) rfl, (fun _ h => absurd h List.not_mem_nil)⟩⟩⟩⟩
theorem in_X6 : ∀ w ∈ u_ws RX6 TX6 6, w ∈ BG := by
  show ∀ w ∈ [Cond.laysFinal "Timesheets" "Timesheets" "staff" "[LTimesheets$Employee;", Cond.lays "Timesheets" "Timesheets" "hired" "I", Cond.laysFinal "Timesheets" "Timesheets" "premiums" "LTimesheets$Premiums;", Cond.laysFinal "Timesheets" "Timesheets" "payroll" "LTimesheets$Payroll;", Cond.laysFinal "Timesheets" "Timesheets" "timeline" "LTimesheets$Timeline;", Cond.laysFinal "Timesheets" "Timesheets" "shiftList" "LTimesheets$Shifts;"], w ∈ BG
  exact List.forall_mem_cons.mpr ⟨bg_1 (List.mem_of_getElem? (l := tables_1_1) (i := 124) rfl) rfl, List.forall_mem_cons.mpr ⟨bg_1 (List.mem_of_getElem? (l := tables_1_1) (i := 126) rfl) rfl, List.forall_mem_cons.mpr ⟨bg_1 (List.mem_of_getElem? (l := tables_1_1) (i := 128) rfl) rfl, List.forall_mem_cons.mpr ⟨bg_1 (List.mem_of_getElem? (l := tables_1_1) (i := 130) rfl) rfl, List.forall_mem_cons.mpr ⟨bg_1 (List.mem_of_getElem? (l := tables_1_1) (i := 132) rfl) rfl, List.forall_mem_cons.mpr ⟨bg_1 (List.mem_of_getElem? (l := tables_1_1) (i := 134) rfl) rfl, (fun _ h => absurd h List.not_mem_nil)⟩⟩⟩⟩⟩⟩
theorem in_X7 : ∀ w ∈ u_ws RX7 TX7 34, w ∈ BG := by
  show ∀ w ∈ [Cond.lays "TimesheetsModel" "TimesheetsModel" "thrown" "I", Cond.lays "TimesheetsModel" "TimesheetsModel" "many" "I", Cond.laysFinal "TimesheetsModel" "TimesheetsModel" "wages" "[I", Cond.laysFinal "TimesheetsModel" "TimesheetsModel" "closed" "[I", Cond.laysFinal "TimesheetsModel" "TimesheetsModel" "gained" "[J", Cond.laysFinal "TimesheetsModel" "TimesheetsModel" "punchMany" "[I", Cond.laysFinal "TimesheetsModel" "TimesheetsModel" "punchTime" "[I", Cond.laysFinal "TimesheetsModel" "TimesheetsModel" "isIn" "[Z", Cond.laysFinal "TimesheetsModel" "TimesheetsModel" "entryMany" "[I", Cond.laysFinal "TimesheetsModel" "TimesheetsModel" "entryFrom" "[I", Cond.laysFinal "TimesheetsModel" "TimesheetsModel" "entryTo" "[I", Cond.laysFinal "TimesheetsModel" "TimesheetsModel" "breakMany" "[I", Cond.laysFinal "TimesheetsModel" "TimesheetsModel" "breakFrom" "[I", Cond.laysFinal "TimesheetsModel" "TimesheetsModel" "breakTo" "[I", Cond.lays "TimesheetsModel" "TimesheetsModel" "rateMany" "I", Cond.laysFinal "TimesheetsModel" "TimesheetsModel" "rateDays" "[I", Cond.laysFinal "TimesheetsModel" "TimesheetsModel" "rateFrom" "[I", Cond.laysFinal "TimesheetsModel" "TimesheetsModel" "rateTo" "[I", Cond.laysFinal "TimesheetsModel" "TimesheetsModel" "rates" "[I", Cond.lays "TimesheetsModel" "TimesheetsModel" "shiftMany" "I", Cond.lays "TimesheetsModel" "TimesheetsModel" "repairs" "I", Cond.laysFinal "TimesheetsModel" "TimesheetsModel" "begins" "[I", Cond.laysFinal "TimesheetsModel" "TimesheetsModel" "ends" "[I", Cond.laysFinal "TimesheetsModel" "TimesheetsModel" "cover" "[I", Cond.laysFinal "TimesheetsModel" "TimesheetsModel" "rest" "[I", Cond.laysFinal "TimesheetsModel" "TimesheetsModel" "kind" "[I", Cond.laysFinal "TimesheetsModel" "TimesheetsModel" "worked" "[I", Cond.laysFinal "TimesheetsModel" "TimesheetsModel" "paid" "[I", Cond.laysFinal "TimesheetsModel" "TimesheetsModel" "sums" "[I", Cond.laysFinal "TimesheetsModel" "TimesheetsModel" "shares" "[I", Cond.laysFinal "TimesheetsModel" "TimesheetsModel" "weekShares" "[I", Cond.lays "TimesheetsModel" "TimesheetsModel" "doubled" "I", Cond.lays "TimesheetsModel" "TimesheetsModel" "runs" "I", Cond.lays "TimesheetsModel" "TimesheetsModel" "longest" "I"], w ∈ BG
  exact List.forall_mem_cons.mpr ⟨bg_4 (List.mem_of_getElem? (l := tables_1_4) (i := 18) rfl) rfl, List.forall_mem_cons.mpr ⟨bg_4 (List.mem_of_getElem? (l := tables_1_4) (i := 20) rfl) rfl, List.forall_mem_cons.mpr ⟨bg_4 (List.mem_of_getElem? (l := tables_1_4) (i := 22) rfl) rfl, List.forall_mem_cons.mpr ⟨bg_4 (List.mem_of_getElem? (l := tables_1_4) (i := 24) rfl) rfl, List.forall_mem_cons.mpr ⟨bg_4 (List.mem_of_getElem? (l := tables_1_4) (i := 26) rfl) rfl, List.forall_mem_cons.mpr ⟨bg_4 (List.mem_of_getElem? (l := tables_1_4) (i := 28) rfl) rfl, List.forall_mem_cons.mpr ⟨bg_4 (List.mem_of_getElem? (l := tables_1_4) (i := 30) rfl) rfl, List.forall_mem_cons.mpr ⟨bg_4 (List.mem_of_getElem? (l := tables_1_4) (i := 32) rfl) rfl, List.forall_mem_cons.mpr ⟨bg_4 (List.mem_of_getElem? (l := tables_1_4) (i := 34) rfl) rfl, List.forall_mem_cons.mpr ⟨bg_4 (List.mem_of_getElem? (l := tables_1_4) (i := 36) rfl) rfl, List.forall_mem_cons.mpr ⟨bg_4 (List.mem_of_getElem? (l := tables_1_4) (i := 38) rfl) rfl, List.forall_mem_cons.mpr ⟨bg_4 (List.mem_of_getElem? (l := tables_1_4) (i := 40) rfl) rfl, List.forall_mem_cons.mpr ⟨bg_4 (List.mem_of_getElem? (l := tables_1_4) (i := 42) rfl) rfl, List.forall_mem_cons.mpr ⟨bg_4 (List.mem_of_getElem? (l := tables_1_4) (i := 44) rfl) rfl, List.forall_mem_cons.mpr ⟨bg_4 (List.mem_of_getElem? (l := tables_1_4) (i := 46) rfl) rfl, List.forall_mem_cons.mpr ⟨bg_4 (List.mem_of_getElem? (l := tables_1_4) (i := 48) rfl) rfl, List.forall_mem_cons.mpr ⟨bg_4 (List.mem_of_getElem? (l := tables_1_4) (i := 50) rfl) rfl, List.forall_mem_cons.mpr ⟨bg_4 (List.mem_of_getElem? (l := tables_1_4) (i := 52) rfl) rfl, List.forall_mem_cons.mpr ⟨bg_4 (List.mem_of_getElem? (l := tables_1_4) (i := 54) rfl) rfl, List.forall_mem_cons.mpr ⟨bg_4 (List.mem_of_getElem? (l := tables_1_4) (i := 56) rfl) rfl, List.forall_mem_cons.mpr ⟨bg_4 (List.mem_of_getElem? (l := tables_1_4) (i := 58) rfl) rfl, List.forall_mem_cons.mpr ⟨bg_4 (List.mem_of_getElem? (l := tables_1_4) (i := 60) rfl) rfl, List.forall_mem_cons.mpr ⟨bg_4 (List.mem_of_getElem? (l := tables_1_4) (i := 62) rfl) rfl, List.forall_mem_cons.mpr ⟨bg_4 (List.mem_of_getElem? (l := tables_1_4) (i := 64) rfl) rfl, List.forall_mem_cons.mpr ⟨bg_4 (List.mem_of_getElem? (l := tables_1_4) (i := 66) rfl) rfl, List.forall_mem_cons.mpr ⟨bg_4 (List.mem_of_getElem? (l := tables_1_4) (i := 68) rfl) rfl, List.forall_mem_cons.mpr ⟨bg_4 (List.mem_of_getElem? (l := tables_1_4) (i := 70) rfl) rfl, List.forall_mem_cons.mpr ⟨bg_4 (List.mem_of_getElem? (l := tables_1_4) (i := 72) rfl) rfl, List.forall_mem_cons.mpr ⟨bg_4 (List.mem_of_getElem? (l := tables_1_4) (i := 74) rfl) rfl, List.forall_mem_cons.mpr ⟨bg_4 (List.mem_of_getElem? (l := tables_1_4) (i := 76) rfl) rfl, List.forall_mem_cons.mpr ⟨bg_4 (List.mem_of_getElem? (l := tables_1_4) (i := 78) rfl) rfl, List.forall_mem_cons.mpr ⟨bg_4 (List.mem_of_getElem? (l := tables_1_4) (i := 80) rfl) rfl, List.forall_mem_cons.mpr ⟨bg_4 (List.mem_of_getElem? (l := tables_1_4) (i := 82) rfl) rfl, List.forall_mem_cons.mpr ⟨bg_4 (List.mem_of_getElem? (l := tables_1_4) (i := 84) rfl) rfl, (fun _ h => absurd h List.not_mem_nil)⟩⟩⟩⟩⟩⟩⟩⟩⟩⟩⟩⟩⟩⟩⟩⟩⟩⟩⟩⟩⟩⟩⟩⟩⟩⟩⟩⟩⟩⟩⟩⟩⟩⟩
end
section
theorem dX4_init_0 : decode cX4_init 0 = .ok (.aload_n 0, 1) := by decide +kernel
theorem dX4_init_1 : decode cX4_init 1 = .ok (.invokespecial 3, 3) := by decide +kernel
theorem dX4_init_4 : decode cX4_init 4 = .ok (.aload_n 0, 1) := by decide +kernel
theorem dX4_init_5 : decode cX4_init 5 = .ok (.iload_n 2, 1) := by decide +kernel
theorem dX4_init_6 : decode cX4_init 6 = .ok (.putfield 9, 3) := by decide +kernel
theorem dX4_init_9 : decode cX4_init 9 = .ok (.aload_n 0, 1) := by decide +kernel
theorem dX4_init_10 : decode cX4_init 10 = .ok (.iload_n 1, 1) := by decide +kernel
theorem dX4_init_11 : decode cX4_init 11 = .ok (.ifCond .le 13, 3) := by decide +kernel
theorem dX4_init_14 : decode cX4_init 14 = .ok (.iload_n 2, 1) := by decide +kernel
theorem dX4_init_15 : decode cX4_init 15 = .ok (.ifCond .le 9, 3) := by decide +kernel
theorem dX4_init_18 : decode cX4_init 18 = .ok (.iload_n 1, 1) := by decide +kernel
theorem dX4_init_19 : decode cX4_init 19 = .ok (.iload_n 2, 1) := by decide +kernel
theorem dX4_init_20 : decode cX4_init 20 = .ok (.imul, 1) := by decide +kernel
theorem dX4_init_21 : decode cX4_init 21 = .ok (.goto 4, 3) := by decide +kernel
theorem dX4_init_24 : decode cX4_init 24 = .ok (.iconst 0, 1) := by decide +kernel
theorem dX4_init_25 : decode cX4_init 25 = .ok (.newarray .int, 2) := by decide +kernel
theorem dX4_init_27 : decode cX4_init 27 = .ok (.putfield 15, 3) := by decide +kernel
theorem dX4_init_30 : decode cX4_init 30 = .ok (.aload_n 0, 1) := by decide +kernel
theorem dX4_init_31 : decode cX4_init 31 = .ok (.iconst 0, 1) := by decide +kernel
theorem dX4_init_32 : decode cX4_init 32 = .ok (.putfield 19, 3) := by decide +kernel
theorem dX4_init_35 : decode cX4_init 35 = .ok (.return_, 1) := by decide +kernel
theorem dX4_size_0 : decode cX4_size 0 = .ok (.aload_n 0, 1) := by decide +kernel
theorem dX4_size_1 : decode cX4_size 1 = .ok (.getfield 19, 3) := by decide +kernel
theorem dX4_size_4 : decode cX4_size 4 = .ok (.ireturn, 1) := by decide +kernel
theorem dX4_get_0 : decode cX4_get 0 = .ok (.iload_n 1, 1) := by decide +kernel
theorem dX4_get_1 : decode cX4_get 1 = .ok (.ifCond .lt 23, 3) := by decide +kernel
theorem dX4_get_4 : decode cX4_get 4 = .ok (.iload_n 1, 1) := by decide +kernel
theorem dX4_get_5 : decode cX4_get 5 = .ok (.aload_n 0, 1) := by decide +kernel
theorem dX4_get_6 : decode cX4_get 6 = .ok (.getfield 19, 3) := by decide +kernel
theorem dX4_get_9 : decode cX4_get 9 = .ok (.if_icmp .ge 15, 3) := by decide +kernel
theorem dX4_get_12 : decode cX4_get 12 = .ok (.iload_n 2, 1) := by decide +kernel
theorem dX4_get_13 : decode cX4_get 13 = .ok (.ifCond .lt 11, 3) := by decide +kernel
theorem dX4_get_16 : decode cX4_get 16 = .ok (.iload_n 2, 1) := by decide +kernel
theorem dX4_get_17 : decode cX4_get 17 = .ok (.aload_n 0, 1) := by decide +kernel
theorem dX4_get_18 : decode cX4_get 18 = .ok (.getfield 9, 3) := by decide +kernel
theorem dX4_get_21 : decode cX4_get 21 = .ok (.if_icmp .lt 5, 3) := by decide +kernel
theorem dX4_get_24 : decode cX4_get 24 = .ok (.iconst 0, 1) := by decide +kernel
theorem dX4_get_25 : decode cX4_get 25 = .ok (.ireturn, 1) := by decide +kernel
theorem dX4_get_26 : decode cX4_get 26 = .ok (.iload_n 1, 1) := by decide +kernel
theorem dX4_get_27 : decode cX4_get 27 = .ok (.aload_n 0, 1) := by decide +kernel
theorem dX4_get_28 : decode cX4_get 28 = .ok (.getfield 9, 3) := by decide +kernel
theorem dX4_get_31 : decode cX4_get 31 = .ok (.imul, 1) := by decide +kernel
theorem dX4_get_32 : decode cX4_get 32 = .ok (.iload_n 2, 1) := by decide +kernel
theorem dX4_get_33 : decode cX4_get 33 = .ok (.iadd, 1) := by decide +kernel
theorem dX4_get_34 : decode cX4_get 34 = .ok (.istore_n 3, 1) := by decide +kernel
theorem dX4_get_35 : decode cX4_get 35 = .ok (.iload_n 3, 1) := by decide +kernel
theorem dX4_get_36 : decode cX4_get 36 = .ok (.ifCond .lt 21, 3) := by decide +kernel
theorem dX4_get_39 : decode cX4_get 39 = .ok (.iload_n 3, 1) := by decide +kernel
theorem dX4_get_40 : decode cX4_get 40 = .ok (.aload_n 0, 1) := by decide +kernel
theorem dX4_get_41 : decode cX4_get 41 = .ok (.getfield 15, 3) := by decide +kernel
theorem dX4_get_44 : decode cX4_get 44 = .ok (.arraylength, 1) := by decide +kernel
theorem dX4_get_45 : decode cX4_get 45 = .ok (.if_icmp .ge 12, 3) := by decide +kernel
theorem dX4_get_48 : decode cX4_get 48 = .ok (.aload_n 0, 1) := by decide +kernel
theorem dX4_get_49 : decode cX4_get 49 = .ok (.getfield 15, 3) := by decide +kernel
theorem dX4_get_52 : decode cX4_get 52 = .ok (.iload_n 3, 1) := by decide +kernel
theorem dX4_get_53 : decode cX4_get 53 = .ok (.iaload, 1) := by decide +kernel
theorem dX4_get_54 : decode cX4_get 54 = .ok (.goto 4, 3) := by decide +kernel
theorem dX4_get_57 : decode cX4_get 57 = .ok (.iconst 0, 1) := by decide +kernel
theorem dX4_get_58 : decode cX4_get 58 = .ok (.ireturn, 1) := by decide +kernel
theorem dX4_set_0 : decode cX4_set 0 = .ok (.iload_n 1, 1) := by decide +kernel
theorem dX4_set_1 : decode cX4_set 1 = .ok (.ifCond .lt 23, 3) := by decide +kernel
theorem dX4_set_4 : decode cX4_set 4 = .ok (.iload_n 1, 1) := by decide +kernel
theorem dX4_set_5 : decode cX4_set 5 = .ok (.aload_n 0, 1) := by decide +kernel
theorem dX4_set_6 : decode cX4_set 6 = .ok (.getfield 19, 3) := by decide +kernel
theorem dX4_set_9 : decode cX4_set 9 = .ok (.if_icmp .ge 15, 3) := by decide +kernel
theorem dX4_set_12 : decode cX4_set 12 = .ok (.iload_n 2, 1) := by decide +kernel
theorem dX4_set_13 : decode cX4_set 13 = .ok (.ifCond .lt 11, 3) := by decide +kernel
theorem dX4_set_16 : decode cX4_set 16 = .ok (.iload_n 2, 1) := by decide +kernel
theorem dX4_set_17 : decode cX4_set 17 = .ok (.aload_n 0, 1) := by decide +kernel
theorem dX4_set_18 : decode cX4_set 18 = .ok (.getfield 9, 3) := by decide +kernel
theorem dX4_set_21 : decode cX4_set 21 = .ok (.if_icmp .lt 4, 3) := by decide +kernel
theorem dX4_set_24 : decode cX4_set 24 = .ok (.return_, 1) := by decide +kernel
theorem dX4_set_25 : decode cX4_set 25 = .ok (.iload_n 1, 1) := by decide +kernel
theorem dX4_set_26 : decode cX4_set 26 = .ok (.aload_n 0, 1) := by decide +kernel
theorem dX4_set_27 : decode cX4_set 27 = .ok (.getfield 9, 3) := by decide +kernel
theorem dX4_set_30 : decode cX4_set 30 = .ok (.imul, 1) := by decide +kernel
theorem dX4_set_31 : decode cX4_set 31 = .ok (.iload_n 2, 1) := by decide +kernel
theorem dX4_set_32 : decode cX4_set 32 = .ok (.iadd, 1) := by decide +kernel
theorem dX4_set_33 : decode cX4_set 33 = .ok (.istore 4, 2) := by decide +kernel
theorem dX4_set_35 : decode cX4_set 35 = .ok (.iload 4, 2) := by decide +kernel
theorem dX4_set_37 : decode cX4_set 37 = .ok (.ifCond .lt 21, 3) := by decide +kernel
theorem dX4_set_40 : decode cX4_set 40 = .ok (.iload 4, 2) := by decide +kernel
theorem dX4_set_42 : decode cX4_set 42 = .ok (.aload_n 0, 1) := by decide +kernel
theorem dX4_set_43 : decode cX4_set 43 = .ok (.getfield 15, 3) := by decide +kernel
theorem dX4_set_46 : decode cX4_set 46 = .ok (.arraylength, 1) := by decide +kernel
theorem dX4_set_47 : decode cX4_set 47 = .ok (.if_icmp .ge 11, 3) := by decide +kernel
theorem dX4_set_50 : decode cX4_set 50 = .ok (.aload_n 0, 1) := by decide +kernel
theorem dX4_set_51 : decode cX4_set 51 = .ok (.getfield 15, 3) := by decide +kernel
theorem dX4_set_54 : decode cX4_set 54 = .ok (.iload 4, 2) := by decide +kernel
theorem dX4_set_56 : decode cX4_set 56 = .ok (.iload_n 3, 1) := by decide +kernel
theorem dX4_set_57 : decode cX4_set 57 = .ok (.iastore, 1) := by decide +kernel
theorem dX4_set_58 : decode cX4_set 58 = .ok (.return_, 1) := by decide +kernel
theorem dX4_insert_0 : decode cX4_insert 0 = .ok (.iload_n 1, 1) := by decide +kernel
theorem dX4_insert_1 : decode cX4_insert 1 = .ok (.ifCond .lt 30, 3) := by decide +kernel
theorem dX4_insert_4 : decode cX4_insert 4 = .ok (.iload_n 1, 1) := by decide +kernel
theorem dX4_insert_5 : decode cX4_insert 5 = .ok (.aload_n 0, 1) := by decide +kernel
theorem dX4_insert_6 : decode cX4_insert 6 = .ok (.getfield 19, 3) := by decide +kernel
theorem dX4_insert_9 : decode cX4_insert 9 = .ok (.if_icmp .gt 22, 3) := by decide +kernel
theorem dX4_insert_12 : decode cX4_insert 12 = .ok (.aload_n 0, 1) := by decide +kernel
theorem dX4_insert_13 : decode cX4_insert 13 = .ok (.getfield 19, 3) := by decide +kernel
theorem dX4_insert_16 : decode cX4_insert 16 = .ok (.iconst 1, 1) := by decide +kernel
theorem dX4_insert_17 : decode cX4_insert 17 = .ok (.iadd, 1) := by decide +kernel
theorem dX4_insert_18 : decode cX4_insert 18 = .ok (.aload_n 0, 1) := by decide +kernel
theorem dX4_insert_19 : decode cX4_insert 19 = .ok (.getfield 9, 3) := by decide +kernel
theorem dX4_insert_22 : decode cX4_insert 22 = .ok (.imul, 1) := by decide +kernel
theorem dX4_insert_23 : decode cX4_insert 23 = .ok (.aload_n 0, 1) := by decide +kernel
theorem dX4_insert_24 : decode cX4_insert 24 = .ok (.getfield 15, 3) := by decide +kernel
theorem dX4_insert_27 : decode cX4_insert 27 = .ok (.arraylength, 1) := by decide +kernel
theorem dX4_insert_28 : decode cX4_insert 28 = .ok (.if_icmp .le 4, 3) := by decide +kernel
theorem dX4_insert_31 : decode cX4_insert 31 = .ok (.return_, 1) := by decide +kernel
theorem dX4_insert_32 : decode cX4_insert 32 = .ok (.aload_n 0, 1) := by decide +kernel
theorem dX4_insert_33 : decode cX4_insert 33 = .ok (.getfield 19, 3) := by decide +kernel
theorem dX4_insert_36 : decode cX4_insert 36 = .ok (.iconst 1, 1) := by decide +kernel
theorem dX4_insert_37 : decode cX4_insert 37 = .ok (.iadd, 1) := by decide +kernel
theorem dX4_insert_38 : decode cX4_insert 38 = .ok (.aload_n 0, 1) := by decide +kernel
theorem dX4_insert_39 : decode cX4_insert 39 = .ok (.getfield 9, 3) := by decide +kernel
theorem dX4_insert_42 : decode cX4_insert 42 = .ok (.imul, 1) := by decide +kernel
theorem dX4_insert_43 : decode cX4_insert 43 = .ok (.iconst 1, 1) := by decide +kernel
theorem dX4_insert_44 : decode cX4_insert 44 = .ok (.isub, 1) := by decide +kernel
theorem dX4_insert_45 : decode cX4_insert 45 = .ok (.istore_n 2, 1) := by decide +kernel
theorem dX4_insert_46 : decode cX4_insert 46 = .ok (.iload_n 2, 1) := by decide +kernel
theorem dX4_insert_47 : decode cX4_insert 47 = .ok (.iload_n 1, 1) := by decide +kernel
theorem dX4_insert_48 : decode cX4_insert 48 = .ok (.iconst 1, 1) := by decide +kernel
theorem dX4_insert_49 : decode cX4_insert 49 = .ok (.iadd, 1) := by decide +kernel
theorem dX4_insert_50 : decode cX4_insert 50 = .ok (.aload_n 0, 1) := by decide +kernel
theorem dX4_insert_51 : decode cX4_insert 51 = .ok (.getfield 9, 3) := by decide +kernel
theorem dX4_insert_54 : decode cX4_insert 54 = .ok (.imul, 1) := by decide +kernel
theorem dX4_insert_55 : decode cX4_insert 55 = .ok (.if_icmp .lt 26, 3) := by decide +kernel
theorem dX4_insert_58 : decode cX4_insert 58 = .ok (.aload_n 0, 1) := by decide +kernel
theorem dX4_insert_59 : decode cX4_insert 59 = .ok (.getfield 15, 3) := by decide +kernel
theorem dX4_insert_62 : decode cX4_insert 62 = .ok (.iload_n 2, 1) := by decide +kernel
theorem dX4_insert_63 : decode cX4_insert 63 = .ok (.aload_n 0, 1) := by decide +kernel
theorem dX4_insert_64 : decode cX4_insert 64 = .ok (.getfield 15, 3) := by decide +kernel
theorem dX4_insert_67 : decode cX4_insert 67 = .ok (.iload_n 2, 1) := by decide +kernel
theorem dX4_insert_68 : decode cX4_insert 68 = .ok (.aload_n 0, 1) := by decide +kernel
theorem dX4_insert_69 : decode cX4_insert 69 = .ok (.getfield 9, 3) := by decide +kernel
theorem dX4_insert_72 : decode cX4_insert 72 = .ok (.isub, 1) := by decide +kernel
theorem dX4_insert_73 : decode cX4_insert 73 = .ok (.iaload, 1) := by decide +kernel
theorem dX4_insert_74 : decode cX4_insert 74 = .ok (.iastore, 1) := by decide +kernel
theorem dX4_insert_75 : decode cX4_insert 75 = .ok (.iinc 2 (-1), 3) := by decide +kernel
theorem dX4_insert_78 : decode cX4_insert 78 = .ok (.goto (-32), 3) := by decide +kernel
theorem dX4_insert_81 : decode cX4_insert 81 = .ok (.aload_n 0, 1) := by decide +kernel
theorem dX4_insert_82 : decode cX4_insert 82 = .ok (.dup, 1) := by decide +kernel
theorem dX4_insert_83 : decode cX4_insert 83 = .ok (.getfield 19, 3) := by decide +kernel
theorem dX4_insert_86 : decode cX4_insert 86 = .ok (.iconst 1, 1) := by decide +kernel
theorem dX4_insert_87 : decode cX4_insert 87 = .ok (.iadd, 1) := by decide +kernel
theorem dX4_insert_88 : decode cX4_insert 88 = .ok (.putfield 19, 3) := by decide +kernel
theorem dX4_insert_91 : decode cX4_insert 91 = .ok (.return_, 1) := by decide +kernel
theorem dX4_remove_0 : decode cX4_remove 0 = .ok (.iload_n 1, 1) := by decide +kernel
theorem dX4_remove_1 : decode cX4_remove 1 = .ok (.ifCond .lt 28, 3) := by decide +kernel
theorem dX4_remove_4 : decode cX4_remove 4 = .ok (.iload_n 1, 1) := by decide +kernel
theorem dX4_remove_5 : decode cX4_remove 5 = .ok (.aload_n 0, 1) := by decide +kernel
theorem dX4_remove_6 : decode cX4_remove 6 = .ok (.getfield 19, 3) := by decide +kernel
theorem dX4_remove_9 : decode cX4_remove 9 = .ok (.if_icmp .ge 20, 3) := by decide +kernel
theorem dX4_remove_12 : decode cX4_remove 12 = .ok (.aload_n 0, 1) := by decide +kernel
theorem dX4_remove_13 : decode cX4_remove 13 = .ok (.getfield 19, 3) := by decide +kernel
theorem dX4_remove_16 : decode cX4_remove 16 = .ok (.aload_n 0, 1) := by decide +kernel
theorem dX4_remove_17 : decode cX4_remove 17 = .ok (.getfield 9, 3) := by decide +kernel
theorem dX4_remove_20 : decode cX4_remove 20 = .ok (.imul, 1) := by decide +kernel
theorem dX4_remove_21 : decode cX4_remove 21 = .ok (.aload_n 0, 1) := by decide +kernel
theorem dX4_remove_22 : decode cX4_remove 22 = .ok (.getfield 15, 3) := by decide +kernel
theorem dX4_remove_25 : decode cX4_remove 25 = .ok (.arraylength, 1) := by decide +kernel
theorem dX4_remove_26 : decode cX4_remove 26 = .ok (.if_icmp .le 4, 3) := by decide +kernel
theorem dX4_remove_29 : decode cX4_remove 29 = .ok (.return_, 1) := by decide +kernel
theorem dX4_remove_30 : decode cX4_remove 30 = .ok (.iload_n 1, 1) := by decide +kernel
theorem dX4_remove_31 : decode cX4_remove 31 = .ok (.iconst 1, 1) := by decide +kernel
theorem dX4_remove_32 : decode cX4_remove 32 = .ok (.iadd, 1) := by decide +kernel
theorem dX4_remove_33 : decode cX4_remove 33 = .ok (.aload_n 0, 1) := by decide +kernel
theorem dX4_remove_34 : decode cX4_remove 34 = .ok (.getfield 9, 3) := by decide +kernel
theorem dX4_remove_37 : decode cX4_remove 37 = .ok (.imul, 1) := by decide +kernel
theorem dX4_remove_38 : decode cX4_remove 38 = .ok (.istore_n 2, 1) := by decide +kernel
theorem dX4_remove_39 : decode cX4_remove 39 = .ok (.iload_n 2, 1) := by decide +kernel
theorem dX4_remove_40 : decode cX4_remove 40 = .ok (.aload_n 0, 1) := by decide +kernel
theorem dX4_remove_41 : decode cX4_remove 41 = .ok (.getfield 19, 3) := by decide +kernel
theorem dX4_remove_44 : decode cX4_remove 44 = .ok (.aload_n 0, 1) := by decide +kernel
theorem dX4_remove_45 : decode cX4_remove 45 = .ok (.getfield 9, 3) := by decide +kernel
theorem dX4_remove_48 : decode cX4_remove 48 = .ok (.imul, 1) := by decide +kernel
theorem dX4_remove_49 : decode cX4_remove 49 = .ok (.if_icmp .ge 26, 3) := by decide +kernel
theorem dX4_remove_52 : decode cX4_remove 52 = .ok (.aload_n 0, 1) := by decide +kernel
theorem dX4_remove_53 : decode cX4_remove 53 = .ok (.getfield 15, 3) := by decide +kernel
theorem dX4_remove_56 : decode cX4_remove 56 = .ok (.iload_n 2, 1) := by decide +kernel
theorem dX4_remove_57 : decode cX4_remove 57 = .ok (.aload_n 0, 1) := by decide +kernel
theorem dX4_remove_58 : decode cX4_remove 58 = .ok (.getfield 9, 3) := by decide +kernel
theorem dX4_remove_61 : decode cX4_remove 61 = .ok (.isub, 1) := by decide +kernel
theorem dX4_remove_62 : decode cX4_remove 62 = .ok (.aload_n 0, 1) := by decide +kernel
theorem dX4_remove_63 : decode cX4_remove 63 = .ok (.getfield 15, 3) := by decide +kernel
theorem dX4_remove_66 : decode cX4_remove 66 = .ok (.iload_n 2, 1) := by decide +kernel
theorem dX4_remove_67 : decode cX4_remove 67 = .ok (.iaload, 1) := by decide +kernel
theorem dX4_remove_68 : decode cX4_remove 68 = .ok (.iastore, 1) := by decide +kernel
theorem dX4_remove_69 : decode cX4_remove 69 = .ok (.iinc 2 1, 3) := by decide +kernel
theorem dX4_remove_72 : decode cX4_remove 72 = .ok (.goto (-33), 3) := by decide +kernel
theorem dX4_remove_75 : decode cX4_remove 75 = .ok (.aload_n 0, 1) := by decide +kernel
theorem dX4_remove_76 : decode cX4_remove 76 = .ok (.dup, 1) := by decide +kernel
theorem dX4_remove_77 : decode cX4_remove 77 = .ok (.getfield 19, 3) := by decide +kernel
theorem dX4_remove_80 : decode cX4_remove 80 = .ok (.iconst 1, 1) := by decide +kernel
theorem dX4_remove_81 : decode cX4_remove 81 = .ok (.isub, 1) := by decide +kernel
theorem dX4_remove_82 : decode cX4_remove 82 = .ok (.putfield 19, 3) := by decide +kernel
theorem dX4_remove_85 : decode cX4_remove 85 = .ok (.return_, 1) := by decide +kernel
theorem dX4_addSpan_0 : decode cX4_addSpan 0 = .ok (.aload_n 0, 1) := by decide +kernel
theorem dX4_addSpan_1 : decode cX4_addSpan 1 = .ok (.getfield 19, 3) := by decide +kernel
theorem dX4_addSpan_4 : decode cX4_addSpan 4 = .ok (.istore_n 3, 1) := by decide +kernel
theorem dX4_addSpan_5 : decode cX4_addSpan 5 = .ok (.aload_n 0, 1) := by decide +kernel
theorem dX4_addSpan_6 : decode cX4_addSpan 6 = .ok (.iload_n 3, 1) := by decide +kernel
theorem dX4_addSpan_7 : decode cX4_addSpan 7 = .ok (.invokevirtual 22, 3) := by decide +kernel
theorem dX4_addSpan_10 : decode cX4_addSpan 10 = .ok (.aload_n 0, 1) := by decide +kernel
theorem dX4_addSpan_11 : decode cX4_addSpan 11 = .ok (.iload_n 3, 1) := by decide +kernel
theorem dX4_addSpan_12 : decode cX4_addSpan 12 = .ok (.iconst 0, 1) := by decide +kernel
theorem dX4_addSpan_13 : decode cX4_addSpan 13 = .ok (.iload_n 1, 1) := by decide +kernel
theorem dX4_addSpan_14 : decode cX4_addSpan 14 = .ok (.invokevirtual 26, 3) := by decide +kernel
theorem dX4_addSpan_17 : decode cX4_addSpan 17 = .ok (.aload_n 0, 1) := by decide +kernel
theorem dX4_addSpan_18 : decode cX4_addSpan 18 = .ok (.iload_n 3, 1) := by decide +kernel
theorem dX4_addSpan_19 : decode cX4_addSpan 19 = .ok (.iconst 1, 1) := by decide +kernel
theorem dX4_addSpan_20 : decode cX4_addSpan 20 = .ok (.iload_n 2, 1) := by decide +kernel
theorem dX4_addSpan_21 : decode cX4_addSpan 21 = .ok (.invokevirtual 26, 3) := by decide +kernel
theorem dX4_addSpan_24 : decode cX4_addSpan 24 = .ok (.return_, 1) := by decide +kernel
theorem dX4_clear_0 : decode cX4_clear 0 = .ok (.aload_n 0, 1) := by decide +kernel
theorem dX4_clear_1 : decode cX4_clear 1 = .ok (.iconst 0, 1) := by decide +kernel
theorem dX4_clear_2 : decode cX4_clear 2 = .ok (.putfield 19, 3) := by decide +kernel
theorem dX4_clear_5 : decode cX4_clear 5 = .ok (.return_, 1) := by decide +kernel
theorem dX0_init_0 : decode cX0_init 0 = .ok (.aload_n 0, 1) := by decide +kernel
theorem dX0_init_1 : decode cX0_init 1 = .ok (.invokespecial 3, 3) := by decide +kernel
theorem dX0_init_4 : decode cX0_init 4 = .ok (.aload_n 0, 1) := by decide +kernel
theorem dX0_init_5 : decode cX0_init 5 = .ok (.iload_n 1, 1) := by decide +kernel
theorem dX0_init_6 : decode cX0_init 6 = .ok (.putfield 9, 3) := by decide +kernel
theorem dX0_init_9 : decode cX0_init 9 = .ok (.aload_n 0, 1) := by decide +kernel
theorem dX0_init_10 : decode cX0_init 10 = .ok (.iconst 0, 1) := by decide +kernel
theorem dX0_init_11 : decode cX0_init 11 = .ok (.putfield 15, 3) := by decide +kernel
theorem dX0_init_14 : decode cX0_init 14 = .ok (.aload_n 0, 1) := by decide +kernel
theorem dX0_init_15 : decode cX0_init 15 = .ok (.lconst 0, 1) := by decide +kernel
theorem dX0_init_16 : decode cX0_init 16 = .ok (.putfield 18, 3) := by decide +kernel
theorem dX0_init_19 : decode cX0_init 19 = .ok (.aload_n 0, 1) := by decide +kernel
theorem dX0_init_20 : decode cX0_init 20 = .ok (.new 22, 3) := by decide +kernel
theorem dX0_init_23 : decode cX0_init 23 = .ok (.dup, 1) := by decide +kernel
theorem dX0_init_24 : decode cX0_init 24 = .ok (.bipush 40, 2) := by decide +kernel
theorem dX0_init_26 : decode cX0_init 26 = .ok (.iconst 2, 1) := by decide +kernel
theorem dX0_init_27 : decode cX0_init 27 = .ok (.invokespecial 24, 3) := by decide +kernel
theorem dX0_init_30 : decode cX0_init 30 = .ok (.putfield 27, 3) := by decide +kernel
theorem dX0_init_33 : decode cX0_init 33 = .ok (.aload_n 0, 1) := by decide +kernel
theorem dX0_init_34 : decode cX0_init 34 = .ok (.new 22, 3) := by decide +kernel
theorem dX0_init_37 : decode cX0_init 37 = .ok (.dup, 1) := by decide +kernel
theorem dX0_init_38 : decode cX0_init 38 = .ok (.bipush 20, 2) := by decide +kernel
theorem dX0_init_40 : decode cX0_init 40 = .ok (.iconst 2, 1) := by decide +kernel
theorem dX0_init_41 : decode cX0_init 41 = .ok (.invokespecial 24, 3) := by decide +kernel
theorem dX0_init_44 : decode cX0_init 44 = .ok (.putfield 31, 3) := by decide +kernel
theorem dX0_init_47 : decode cX0_init 47 = .ok (.aload_n 0, 1) := by decide +kernel
theorem dX0_init_48 : decode cX0_init 48 = .ok (.new 22, 3) := by decide +kernel
theorem dX0_init_51 : decode cX0_init 51 = .ok (.dup, 1) := by decide +kernel
theorem dX0_init_52 : decode cX0_init 52 = .ok (.bipush 20, 2) := by decide +kernel
theorem dX0_init_54 : decode cX0_init 54 = .ok (.iconst 2, 1) := by decide +kernel
theorem dX0_init_55 : decode cX0_init 55 = .ok (.invokespecial 24, 3) := by decide +kernel
theorem dX0_init_58 : decode cX0_init 58 = .ok (.putfield 34, 3) := by decide +kernel
theorem dX0_init_61 : decode cX0_init 61 = .ok (.return_, 1) := by decide +kernel
theorem dX0_beginNextWeek_0 : decode cX0_beginNextWeek 0 = .ok (.aload_n 0, 1) := by decide +kernel
theorem dX0_beginNextWeek_1 : decode cX0_beginNextWeek 1 = .ok (.dup, 1) := by decide +kernel
theorem dX0_beginNextWeek_2 : decode cX0_beginNextWeek 2 = .ok (.getfield 18, 3) := by decide +kernel
theorem dX0_beginNextWeek_5 : decode cX0_beginNextWeek 5 = .ok (.iload_n 1, 1) := by decide +kernel
theorem dX0_beginNextWeek_6 : decode cX0_beginNextWeek 6 = .ok (.i2l, 1) := by decide +kernel
theorem dX0_beginNextWeek_7 : decode cX0_beginNextWeek 7 = .ok (.ladd, 1) := by decide +kernel
theorem dX0_beginNextWeek_8 : decode cX0_beginNextWeek 8 = .ok (.putfield 18, 3) := by decide +kernel
theorem dX0_beginNextWeek_11 : decode cX0_beginNextWeek 11 = .ok (.aload_n 0, 1) := by decide +kernel
theorem dX0_beginNextWeek_12 : decode cX0_beginNextWeek 12 = .ok (.dup, 1) := by decide +kernel
theorem dX0_beginNextWeek_13 : decode cX0_beginNextWeek 13 = .ok (.getfield 15, 3) := by decide +kernel
theorem dX0_beginNextWeek_16 : decode cX0_beginNextWeek 16 = .ok (.iconst 1, 1) := by decide +kernel
theorem dX0_beginNextWeek_17 : decode cX0_beginNextWeek 17 = .ok (.iadd, 1) := by decide +kernel
theorem dX0_beginNextWeek_18 : decode cX0_beginNextWeek 18 = .ok (.putfield 15, 3) := by decide +kernel
theorem dX0_beginNextWeek_21 : decode cX0_beginNextWeek 21 = .ok (.aload_n 0, 1) := by decide +kernel
theorem dX0_beginNextWeek_22 : decode cX0_beginNextWeek 22 = .ok (.getfield 27, 3) := by decide +kernel
theorem dX0_beginNextWeek_25 : decode cX0_beginNextWeek 25 = .ok (.invokevirtual 37, 3) := by decide +kernel
theorem dX0_beginNextWeek_28 : decode cX0_beginNextWeek 28 = .ok (.aload_n 0, 1) := by decide +kernel
theorem dX0_beginNextWeek_29 : decode cX0_beginNextWeek 29 = .ok (.getfield 31, 3) := by decide +kernel
theorem dX0_beginNextWeek_32 : decode cX0_beginNextWeek 32 = .ok (.invokevirtual 37, 3) := by decide +kernel
theorem dX0_beginNextWeek_35 : decode cX0_beginNextWeek 35 = .ok (.aload_n 0, 1) := by decide +kernel
theorem dX0_beginNextWeek_36 : decode cX0_beginNextWeek 36 = .ok (.getfield 34, 3) := by decide +kernel
theorem dX0_beginNextWeek_39 : decode cX0_beginNextWeek 39 = .ok (.invokevirtual 37, 3) := by decide +kernel
theorem dX0_beginNextWeek_42 : decode cX0_beginNextWeek 42 = .ok (.return_, 1) := by decide +kernel
theorem dX2_init_0 : decode cX2_init 0 = .ok (.aload_n 0, 1) := by decide +kernel
theorem dX2_init_1 : decode cX2_init 1 = .ok (.invokespecial 3, 3) := by decide +kernel
theorem dX2_init_4 : decode cX2_init 4 = .ok (.aload_n 0, 1) := by decide +kernel
theorem dX2_init_5 : decode cX2_init 5 = .ok (.new 9, 3) := by decide +kernel
theorem dX2_init_8 : decode cX2_init 8 = .ok (.dup, 1) := by decide +kernel
theorem dX2_init_9 : decode cX2_init 9 = .ok (.bipush 6, 2) := by decide +kernel
theorem dX2_init_11 : decode cX2_init 11 = .ok (.iconst 4, 1) := by decide +kernel
theorem dX2_init_12 : decode cX2_init 12 = .ok (.invokespecial 11, 3) := by decide +kernel
theorem dX2_init_15 : decode cX2_init 15 = .ok (.putfield 14, 3) := by decide +kernel
theorem dX2_init_18 : decode cX2_init 18 = .ok (.return_, 1) := by decide +kernel
theorem dX2_add_0 : decode cX2_add 0 = .ok (.aload_n 0, 1) := by decide +kernel
theorem dX2_add_1 : decode cX2_add 1 = .ok (.getfield 14, 3) := by decide +kernel
theorem dX2_add_4 : decode cX2_add 4 = .ok (.invokevirtual 20, 3) := by decide +kernel
theorem dX2_add_7 : decode cX2_add 7 = .ok (.istore 5, 2) := by decide +kernel
theorem dX2_add_9 : decode cX2_add 9 = .ok (.aload_n 0, 1) := by decide +kernel
theorem dX2_add_10 : decode cX2_add 10 = .ok (.getfield 14, 3) := by decide +kernel
theorem dX2_add_13 : decode cX2_add 13 = .ok (.iload 5, 2) := by decide +kernel
theorem dX2_add_15 : decode cX2_add 15 = .ok (.invokevirtual 24, 3) := by decide +kernel
theorem dX2_add_18 : decode cX2_add 18 = .ok (.aload_n 0, 1) := by decide +kernel
theorem dX2_add_19 : decode cX2_add 19 = .ok (.getfield 14, 3) := by decide +kernel
theorem dX2_add_22 : decode cX2_add 22 = .ok (.iload 5, 2) := by decide +kernel
theorem dX2_add_24 : decode cX2_add 24 = .ok (.iconst 0, 1) := by decide +kernel
theorem dX2_add_25 : decode cX2_add 25 = .ok (.iload_n 1, 1) := by decide +kernel
theorem dX2_add_26 : decode cX2_add 26 = .ok (.invokevirtual 28, 3) := by decide +kernel
theorem dX2_add_29 : decode cX2_add 29 = .ok (.aload_n 0, 1) := by decide +kernel
theorem dX2_add_30 : decode cX2_add 30 = .ok (.getfield 14, 3) := by decide +kernel
theorem dX2_add_33 : decode cX2_add 33 = .ok (.iload 5, 2) := by decide +kernel
theorem dX2_add_35 : decode cX2_add 35 = .ok (.iconst 1, 1) := by decide +kernel
theorem dX2_add_36 : decode cX2_add 36 = .ok (.iload_n 2, 1) := by decide +kernel
theorem dX2_add_37 : decode cX2_add 37 = .ok (.invokevirtual 28, 3) := by decide +kernel
theorem dX2_add_40 : decode cX2_add 40 = .ok (.aload_n 0, 1) := by decide +kernel
theorem dX2_add_41 : decode cX2_add 41 = .ok (.getfield 14, 3) := by decide +kernel
theorem dX2_add_44 : decode cX2_add 44 = .ok (.iload 5, 2) := by decide +kernel
theorem dX2_add_46 : decode cX2_add 46 = .ok (.iconst 2, 1) := by decide +kernel
theorem dX2_add_47 : decode cX2_add 47 = .ok (.iload_n 3, 1) := by decide +kernel
theorem dX2_add_48 : decode cX2_add 48 = .ok (.invokevirtual 28, 3) := by decide +kernel
theorem dX2_add_51 : decode cX2_add 51 = .ok (.aload_n 0, 1) := by decide +kernel
theorem dX2_add_52 : decode cX2_add 52 = .ok (.getfield 14, 3) := by decide +kernel
theorem dX2_add_55 : decode cX2_add 55 = .ok (.iload 5, 2) := by decide +kernel
theorem dX2_add_57 : decode cX2_add 57 = .ok (.iconst 3, 1) := by decide +kernel
theorem dX2_add_58 : decode cX2_add 58 = .ok (.iload 4, 2) := by decide +kernel
theorem dX2_add_60 : decode cX2_add 60 = .ok (.invokevirtual 28, 3) := by decide +kernel
theorem dX2_add_63 : decode cX2_add 63 = .ok (.iload 5, 2) := by decide +kernel
theorem dX2_add_65 : decode cX2_add 65 = .ok (.ireturn, 1) := by decide +kernel
theorem dX2_payFor_0 : decode cX2_payFor 0 = .ok (.iconst 0, 1) := by decide +kernel
theorem dX2_payFor_1 : decode cX2_payFor 1 = .ok (.istore_n 2, 1) := by decide +kernel
theorem dX2_payFor_2 : decode cX2_payFor 2 = .ok (.iconst 0, 1) := by decide +kernel
theorem dX2_payFor_3 : decode cX2_payFor 3 = .ok (.istore_n 3, 1) := by decide +kernel
theorem dX2_payFor_4 : decode cX2_payFor 4 = .ok (.iload_n 3, 1) := by decide +kernel
theorem dX2_payFor_5 : decode cX2_payFor 5 = .ok (.aload_n 1, 1) := by decide +kernel
theorem dX2_payFor_6 : decode cX2_payFor 6 = .ok (.invokevirtual 20, 3) := by decide +kernel
theorem dX2_payFor_9 : decode cX2_payFor 9 = .ok (.if_icmp .ge 28, 3) := by decide +kernel
theorem dX2_payFor_12 : decode cX2_payFor 12 = .ok (.iload_n 2, 1) := by decide +kernel
theorem dX2_payFor_13 : decode cX2_payFor 13 = .ok (.aload_n 0, 1) := by decide +kernel
theorem dX2_payFor_14 : decode cX2_payFor 14 = .ok (.aload_n 1, 1) := by decide +kernel
theorem dX2_payFor_15 : decode cX2_payFor 15 = .ok (.iload_n 3, 1) := by decide +kernel
theorem dX2_payFor_16 : decode cX2_payFor 16 = .ok (.iconst 0, 1) := by decide +kernel
theorem dX2_payFor_17 : decode cX2_payFor 17 = .ok (.invokevirtual 32, 3) := by decide +kernel
theorem dX2_payFor_20 : decode cX2_payFor 20 = .ok (.aload_n 1, 1) := by decide +kernel
theorem dX2_payFor_21 : decode cX2_payFor 21 = .ok (.iload_n 3, 1) := by decide +kernel
theorem dX2_payFor_22 : decode cX2_payFor 22 = .ok (.iconst 1, 1) := by decide +kernel
theorem dX2_payFor_23 : decode cX2_payFor 23 = .ok (.invokevirtual 32, 3) := by decide +kernel
theorem dX2_payFor_26 : decode cX2_payFor 26 = .ok (.invokevirtual 36, 3) := by decide +kernel
theorem dX2_payFor_29 : decode cX2_payFor 29 = .ok (.iadd, 1) := by decide +kernel
theorem dX2_payFor_30 : decode cX2_payFor 30 = .ok (.istore_n 2, 1) := by decide +kernel
theorem dX2_payFor_31 : decode cX2_payFor 31 = .ok (.iinc 3 1, 3) := by decide +kernel
theorem dX2_payFor_34 : decode cX2_payFor 34 = .ok (.goto (-30), 3) := by decide +kernel
theorem dX2_payFor_37 : decode cX2_payFor 37 = .ok (.iload_n 2, 1) := by decide +kernel
theorem dX2_payFor_38 : decode cX2_payFor 38 = .ok (.bipush 30, 2) := by decide +kernel
theorem dX2_payFor_40 : decode cX2_payFor 40 = .ok (.iadd, 1) := by decide +kernel
theorem dX2_payFor_41 : decode cX2_payFor 41 = .ok (.bipush 60, 2) := by decide +kernel
theorem dX2_payFor_43 : decode cX2_payFor 43 = .ok (.idiv, 1) := by decide +kernel
theorem dX2_payFor_44 : decode cX2_payFor 44 = .ok (.ireturn, 1) := by decide +kernel
theorem dX2_sumOver_0 : decode cX2_sumOver 0 = .ok (.iconst 0, 1) := by decide +kernel
theorem dX2_sumOver_1 : decode cX2_sumOver 1 = .ok (.istore_n 3, 1) := by decide +kernel
theorem dX2_sumOver_2 : decode cX2_sumOver 2 = .ok (.iload_n 1, 1) := by decide +kernel
theorem dX2_sumOver_3 : decode cX2_sumOver 3 = .ok (.istore 4, 2) := by decide +kernel
theorem dX2_sumOver_5 : decode cX2_sumOver 5 = .ok (.iconst 0, 1) := by decide +kernel
theorem dX2_sumOver_6 : decode cX2_sumOver 6 = .ok (.istore 5, 2) := by decide +kernel
theorem dX2_sumOver_8 : decode cX2_sumOver 8 = .ok (.iload 5, 2) := by decide +kernel
theorem dX2_sumOver_10 : decode cX2_sumOver 10 = .ok (.sipush 1440, 3) := by decide +kernel
theorem dX2_sumOver_13 : decode cX2_sumOver 13 = .ok (.if_icmp .ge 71, 3) := by decide +kernel
theorem dX2_sumOver_16 : decode cX2_sumOver 16 = .ok (.iload 4, 2) := by decide +kernel
theorem dX2_sumOver_18 : decode cX2_sumOver 18 = .ok (.iload_n 2, 1) := by decide +kernel
theorem dX2_sumOver_19 : decode cX2_sumOver 19 = .ok (.if_icmp .ge 65, 3) := by decide +kernel
theorem dX2_sumOver_22 : decode cX2_sumOver 22 = .ok (.iload 4, 2) := by decide +kernel
theorem dX2_sumOver_24 : decode cX2_sumOver 24 = .ok (.sipush 1440, 3) := by decide +kernel
theorem dX2_sumOver_27 : decode cX2_sumOver 27 = .ok (.idiv, 1) := by decide +kernel
theorem dX2_sumOver_28 : decode cX2_sumOver 28 = .ok (.istore 6, 2) := by decide +kernel
theorem dX2_sumOver_30 : decode cX2_sumOver 30 = .ok (.iload_n 2, 1) := by decide +kernel
theorem dX2_sumOver_31 : decode cX2_sumOver 31 = .ok (.iload 6, 2) := by decide +kernel
theorem dX2_sumOver_33 : decode cX2_sumOver 33 = .ok (.sipush 1440, 3) := by decide +kernel
theorem dX2_sumOver_36 : decode cX2_sumOver 36 = .ok (.imul, 1) := by decide +kernel
theorem dX2_sumOver_37 : decode cX2_sumOver 37 = .ok (.aload_n 0, 1) := by decide +kernel
theorem dX2_sumOver_38 : decode cX2_sumOver 38 = .ok (.iload 4, 2) := by decide +kernel
theorem dX2_sumOver_40 : decode cX2_sumOver 40 = .ok (.sipush 1440, 3) := by decide +kernel
theorem dX2_sumOver_43 : decode cX2_sumOver 43 = .ok (.irem, 1) := by decide +kernel
theorem dX2_sumOver_44 : decode cX2_sumOver 44 = .ok (.invokevirtual 39, 3) := by decide +kernel
theorem dX2_sumOver_47 : decode cX2_sumOver 47 = .ok (.iadd, 1) := by decide +kernel
theorem dX2_sumOver_48 : decode cX2_sumOver 48 = .ok (.invokestatic 43, 3) := by decide +kernel
theorem dX2_sumOver_51 : decode cX2_sumOver 51 = .ok (.istore 7, 2) := by decide +kernel
theorem dX2_sumOver_53 : decode cX2_sumOver 53 = .ok (.iload_n 3, 1) := by decide +kernel
theorem dX2_sumOver_54 : decode cX2_sumOver 54 = .ok (.aload_n 0, 1) := by decide +kernel
theorem dX2_sumOver_55 : decode cX2_sumOver 55 = .ok (.iload 6, 2) := by decide +kernel
theorem dX2_sumOver_57 : decode cX2_sumOver 57 = .ok (.iload 4, 2) := by decide +kernel
theorem dX2_sumOver_59 : decode cX2_sumOver 59 = .ok (.sipush 1440, 3) := by decide +kernel
theorem dX2_sumOver_62 : decode cX2_sumOver 62 = .ok (.irem, 1) := by decide +kernel
theorem dX2_sumOver_63 : decode cX2_sumOver 63 = .ok (.invokevirtual 48, 3) := by decide +kernel
theorem dX2_sumOver_66 : decode cX2_sumOver 66 = .ok (.iload 7, 2) := by decide +kernel
theorem dX2_sumOver_68 : decode cX2_sumOver 68 = .ok (.iload 4, 2) := by decide +kernel
theorem dX2_sumOver_70 : decode cX2_sumOver 70 = .ok (.isub, 1) := by decide +kernel
theorem dX2_sumOver_71 : decode cX2_sumOver 71 = .ok (.imul, 1) := by decide +kernel
theorem dX2_sumOver_72 : decode cX2_sumOver 72 = .ok (.iadd, 1) := by decide +kernel
theorem dX2_sumOver_73 : decode cX2_sumOver 73 = .ok (.istore_n 3, 1) := by decide +kernel
theorem dX2_sumOver_74 : decode cX2_sumOver 74 = .ok (.iload 7, 2) := by decide +kernel
theorem dX2_sumOver_76 : decode cX2_sumOver 76 = .ok (.istore 4, 2) := by decide +kernel
theorem dX2_sumOver_78 : decode cX2_sumOver 78 = .ok (.iinc 5 1, 3) := by decide +kernel
theorem dX2_sumOver_81 : decode cX2_sumOver 81 = .ok (.goto (-73), 3) := by decide +kernel
theorem dX2_sumOver_84 : decode cX2_sumOver 84 = .ok (.iload_n 3, 1) := by decide +kernel
theorem dX2_sumOver_85 : decode cX2_sumOver 85 = .ok (.ireturn, 1) := by decide +kernel
theorem dX2_nextChange_0 : decode cX2_nextChange 0 = .ok (.sipush 1440, 3) := by decide +kernel
theorem dX2_nextChange_3 : decode cX2_nextChange 3 = .ok (.istore_n 2, 1) := by decide +kernel
theorem dX2_nextChange_4 : decode cX2_nextChange 4 = .ok (.iconst 0, 1) := by decide +kernel
theorem dX2_nextChange_5 : decode cX2_nextChange 5 = .ok (.istore_n 3, 1) := by decide +kernel
theorem dX2_nextChange_6 : decode cX2_nextChange 6 = .ok (.iload_n 3, 1) := by decide +kernel
theorem dX2_nextChange_7 : decode cX2_nextChange 7 = .ok (.aload_n 0, 1) := by decide +kernel
theorem dX2_nextChange_8 : decode cX2_nextChange 8 = .ok (.getfield 14, 3) := by decide +kernel
theorem dX2_nextChange_11 : decode cX2_nextChange 11 = .ok (.invokevirtual 20, 3) := by decide +kernel
theorem dX2_nextChange_14 : decode cX2_nextChange 14 = .ok (.if_icmp .ge 65, 3) := by decide +kernel
theorem dX2_nextChange_17 : decode cX2_nextChange 17 = .ok (.aload_n 0, 1) := by decide +kernel
theorem dX2_nextChange_18 : decode cX2_nextChange 18 = .ok (.getfield 14, 3) := by decide +kernel
theorem dX2_nextChange_21 : decode cX2_nextChange 21 = .ok (.iload_n 3, 1) := by decide +kernel
theorem dX2_nextChange_22 : decode cX2_nextChange 22 = .ok (.iconst 1, 1) := by decide +kernel
theorem dX2_nextChange_23 : decode cX2_nextChange 23 = .ok (.invokevirtual 32, 3) := by decide +kernel
theorem dX2_nextChange_26 : decode cX2_nextChange 26 = .ok (.istore 4, 2) := by decide +kernel
theorem dX2_nextChange_28 : decode cX2_nextChange 28 = .ok (.aload_n 0, 1) := by decide +kernel
theorem dX2_nextChange_29 : decode cX2_nextChange 29 = .ok (.getfield 14, 3) := by decide +kernel
theorem dX2_nextChange_32 : decode cX2_nextChange 32 = .ok (.iload_n 3, 1) := by decide +kernel
theorem dX2_nextChange_33 : decode cX2_nextChange 33 = .ok (.iconst 2, 1) := by decide +kernel
theorem dX2_nextChange_34 : decode cX2_nextChange 34 = .ok (.invokevirtual 32, 3) := by decide +kernel
theorem dX2_nextChange_37 : decode cX2_nextChange 37 = .ok (.istore 5, 2) := by decide +kernel
theorem dX2_nextChange_39 : decode cX2_nextChange 39 = .ok (.iload 4, 2) := by decide +kernel
theorem dX2_nextChange_41 : decode cX2_nextChange 41 = .ok (.iload_n 1, 1) := by decide +kernel
theorem dX2_nextChange_42 : decode cX2_nextChange 42 = .ok (.if_icmp .le 12, 3) := by decide +kernel
theorem dX2_nextChange_45 : decode cX2_nextChange 45 = .ok (.iload_n 2, 1) := by decide +kernel
theorem dX2_nextChange_46 : decode cX2_nextChange 46 = .ok (.iload 4, 2) := by decide +kernel
theorem dX2_nextChange_48 : decode cX2_nextChange 48 = .ok (.invokestatic 43, 3) := by decide +kernel
theorem dX2_nextChange_51 : decode cX2_nextChange 51 = .ok (.goto 4, 3) := by decide +kernel
theorem dX2_nextChange_54 : decode cX2_nextChange 54 = .ok (.iload_n 2, 1) := by decide +kernel
theorem dX2_nextChange_55 : decode cX2_nextChange 55 = .ok (.istore_n 2, 1) := by decide +kernel
theorem dX2_nextChange_56 : decode cX2_nextChange 56 = .ok (.iload 5, 2) := by decide +kernel
theorem dX2_nextChange_58 : decode cX2_nextChange 58 = .ok (.iload_n 1, 1) := by decide +kernel
theorem dX2_nextChange_59 : decode cX2_nextChange 59 = .ok (.if_icmp .le 12, 3) := by decide +kernel
theorem dX2_nextChange_62 : decode cX2_nextChange 62 = .ok (.iload_n 2, 1) := by decide +kernel
theorem dX2_nextChange_63 : decode cX2_nextChange 63 = .ok (.iload 5, 2) := by decide +kernel
theorem dX2_nextChange_65 : decode cX2_nextChange 65 = .ok (.invokestatic 43, 3) := by decide +kernel
theorem dX2_nextChange_68 : decode cX2_nextChange 68 = .ok (.goto 4, 3) := by decide +kernel
theorem dX2_nextChange_71 : decode cX2_nextChange 71 = .ok (.iload_n 2, 1) := by decide +kernel
theorem dX2_nextChange_72 : decode cX2_nextChange 72 = .ok (.istore_n 2, 1) := by decide +kernel
theorem dX2_nextChange_73 : decode cX2_nextChange 73 = .ok (.iinc 3 1, 3) := by decide +kernel
theorem dX2_nextChange_76 : decode cX2_nextChange 76 = .ok (.goto (-70), 3) := by decide +kernel
theorem dX2_nextChange_79 : decode cX2_nextChange 79 = .ok (.iload_n 2, 1) := by decide +kernel
theorem dX2_nextChange_80 : decode cX2_nextChange 80 = .ok (.ireturn, 1) := by decide +kernel
theorem dX2_greatestRate_0 : decode cX2_greatestRate 0 = .ok (.iconst 0, 1) := by decide +kernel
theorem dX2_greatestRate_1 : decode cX2_greatestRate 1 = .ok (.istore_n 3, 1) := by decide +kernel
theorem dX2_greatestRate_2 : decode cX2_greatestRate 2 = .ok (.iconst 0, 1) := by decide +kernel
theorem dX2_greatestRate_3 : decode cX2_greatestRate 3 = .ok (.istore 4, 2) := by decide +kernel
theorem dX2_greatestRate_5 : decode cX2_greatestRate 5 = .ok (.iload 4, 2) := by decide +kernel
theorem dX2_greatestRate_7 : decode cX2_greatestRate 7 = .ok (.aload_n 0, 1) := by decide +kernel
theorem dX2_greatestRate_8 : decode cX2_greatestRate 8 = .ok (.getfield 14, 3) := by decide +kernel
theorem dX2_greatestRate_11 : decode cX2_greatestRate 11 = .ok (.invokevirtual 20, 3) := by decide +kernel
theorem dX2_greatestRate_14 : decode cX2_greatestRate 14 = .ok (.if_icmp .ge 81, 3) := by decide +kernel
theorem dX2_greatestRate_17 : decode cX2_greatestRate 17 = .ok (.aload_n 0, 1) := by decide +kernel
theorem dX2_greatestRate_18 : decode cX2_greatestRate 18 = .ok (.getfield 14, 3) := by decide +kernel
theorem dX2_greatestRate_21 : decode cX2_greatestRate 21 = .ok (.iload 4, 2) := by decide +kernel
theorem dX2_greatestRate_23 : decode cX2_greatestRate 23 = .ok (.iconst 0, 1) := by decide +kernel
theorem dX2_greatestRate_24 : decode cX2_greatestRate 24 = .ok (.invokevirtual 32, 3) := by decide +kernel
theorem dX2_greatestRate_27 : decode cX2_greatestRate 27 = .ok (.iload_n 1, 1) := by decide +kernel
theorem dX2_greatestRate_28 : decode cX2_greatestRate 28 = .ok (.ishr, 1) := by decide +kernel
theorem dX2_greatestRate_29 : decode cX2_greatestRate 29 = .ok (.iconst 1, 1) := by decide +kernel
theorem dX2_greatestRate_30 : decode cX2_greatestRate 30 = .ok (.iand, 1) := by decide +kernel
theorem dX2_greatestRate_31 : decode cX2_greatestRate 31 = .ok (.iconst 1, 1) := by decide +kernel
theorem dX2_greatestRate_32 : decode cX2_greatestRate 32 = .ok (.if_icmp .ne 7, 3) := by decide +kernel
theorem dX2_greatestRate_35 : decode cX2_greatestRate 35 = .ok (.iconst 1, 1) := by decide +kernel
theorem dX2_greatestRate_36 : decode cX2_greatestRate 36 = .ok (.goto 4, 3) := by decide +kernel
theorem dX2_greatestRate_39 : decode cX2_greatestRate 39 = .ok (.iconst 0, 1) := by decide +kernel
theorem dX2_greatestRate_40 : decode cX2_greatestRate 40 = .ok (.istore 5, 2) := by decide +kernel
theorem dX2_greatestRate_42 : decode cX2_greatestRate 42 = .ok (.iload 5, 2) := by decide +kernel
theorem dX2_greatestRate_44 : decode cX2_greatestRate 44 = .ok (.ifCond .eq 45, 3) := by decide +kernel
theorem dX2_greatestRate_47 : decode cX2_greatestRate 47 = .ok (.iload_n 2, 1) := by decide +kernel
theorem dX2_greatestRate_48 : decode cX2_greatestRate 48 = .ok (.aload_n 0, 1) := by decide +kernel
theorem dX2_greatestRate_49 : decode cX2_greatestRate 49 = .ok (.getfield 14, 3) := by decide +kernel
theorem dX2_greatestRate_52 : decode cX2_greatestRate 52 = .ok (.iload 4, 2) := by decide +kernel
theorem dX2_greatestRate_54 : decode cX2_greatestRate 54 = .ok (.iconst 1, 1) := by decide +kernel
theorem dX2_greatestRate_55 : decode cX2_greatestRate 55 = .ok (.invokevirtual 32, 3) := by decide +kernel
theorem dX2_greatestRate_58 : decode cX2_greatestRate 58 = .ok (.aload_n 0, 1) := by decide +kernel
theorem dX2_greatestRate_59 : decode cX2_greatestRate 59 = .ok (.getfield 14, 3) := by decide +kernel
theorem dX2_greatestRate_62 : decode cX2_greatestRate 62 = .ok (.iload 4, 2) := by decide +kernel
theorem dX2_greatestRate_64 : decode cX2_greatestRate 64 = .ok (.iconst 2, 1) := by decide +kernel
theorem dX2_greatestRate_65 : decode cX2_greatestRate 65 = .ok (.invokevirtual 32, 3) := by decide +kernel
theorem dX2_greatestRate_68 : decode cX2_greatestRate 68 = .ok (.invokestatic 51, 3) := by decide +kernel
theorem dX2_greatestRate_71 : decode cX2_greatestRate 71 = .ok (.ifCond .eq 18, 3) := by decide +kernel
theorem dX2_greatestRate_74 : decode cX2_greatestRate 74 = .ok (.iload_n 3, 1) := by decide +kernel
theorem dX2_greatestRate_75 : decode cX2_greatestRate 75 = .ok (.aload_n 0, 1) := by decide +kernel
theorem dX2_greatestRate_76 : decode cX2_greatestRate 76 = .ok (.getfield 14, 3) := by decide +kernel
theorem dX2_greatestRate_79 : decode cX2_greatestRate 79 = .ok (.iload 4, 2) := by decide +kernel
theorem dX2_greatestRate_81 : decode cX2_greatestRate 81 = .ok (.iconst 3, 1) := by decide +kernel
theorem dX2_greatestRate_82 : decode cX2_greatestRate 82 = .ok (.invokevirtual 32, 3) := by decide +kernel
theorem dX2_greatestRate_85 : decode cX2_greatestRate 85 = .ok (.invokestatic 55, 3) := by decide +kernel
theorem dX2_greatestRate_88 : decode cX2_greatestRate 88 = .ok (.istore_n 3, 1) := by decide +kernel
theorem dX2_greatestRate_89 : decode cX2_greatestRate 89 = .ok (.iinc 4 1, 3) := by decide +kernel
theorem dX2_greatestRate_92 : decode cX2_greatestRate 92 = .ok (.goto (-87), 3) := by decide +kernel
theorem dX2_greatestRate_95 : decode cX2_greatestRate 95 = .ok (.iload_n 3, 1) := by decide +kernel
theorem dX2_greatestRate_96 : decode cX2_greatestRate 96 = .ok (.ireturn, 1) := by decide +kernel
theorem dX2_isBetween_0 : decode cX2_isBetween 0 = .ok (.iload_n 1, 1) := by decide +kernel
theorem dX2_isBetween_1 : decode cX2_isBetween 1 = .ok (.iload_n 2, 1) := by decide +kernel
theorem dX2_isBetween_2 : decode cX2_isBetween 2 = .ok (.if_icmp .ge 19, 3) := by decide +kernel
theorem dX2_isBetween_5 : decode cX2_isBetween 5 = .ok (.iload_n 1, 1) := by decide +kernel
theorem dX2_isBetween_6 : decode cX2_isBetween 6 = .ok (.iload_n 0, 1) := by decide +kernel
theorem dX2_isBetween_7 : decode cX2_isBetween 7 = .ok (.if_icmp .gt 12, 3) := by decide +kernel
theorem dX2_isBetween_10 : decode cX2_isBetween 10 = .ok (.iload_n 0, 1) := by decide +kernel
theorem dX2_isBetween_11 : decode cX2_isBetween 11 = .ok (.iload_n 2, 1) := by decide +kernel
theorem dX2_isBetween_12 : decode cX2_isBetween 12 = .ok (.if_icmp .ge 7, 3) := by decide +kernel
theorem dX2_isBetween_15 : decode cX2_isBetween 15 = .ok (.iconst 1, 1) := by decide +kernel
theorem dX2_isBetween_16 : decode cX2_isBetween 16 = .ok (.goto 4, 3) := by decide +kernel
theorem dX2_isBetween_19 : decode cX2_isBetween 19 = .ok (.iconst 0, 1) := by decide +kernel
theorem dX2_isBetween_20 : decode cX2_isBetween 20 = .ok (.ireturn, 1) := by decide +kernel
theorem dX2_isBetween_21 : decode cX2_isBetween 21 = .ok (.iload_n 1, 1) := by decide +kernel
theorem dX2_isBetween_22 : decode cX2_isBetween 22 = .ok (.iload_n 2, 1) := by decide +kernel
theorem dX2_isBetween_23 : decode cX2_isBetween 23 = .ok (.if_icmp .eq 13, 3) := by decide +kernel
theorem dX2_isBetween_26 : decode cX2_isBetween 26 = .ok (.iload_n 0, 1) := by decide +kernel
theorem dX2_isBetween_27 : decode cX2_isBetween 27 = .ok (.iload_n 1, 1) := by decide +kernel
theorem dX2_isBetween_28 : decode cX2_isBetween 28 = .ok (.if_icmp .ge 8, 3) := by decide +kernel
theorem dX2_isBetween_31 : decode cX2_isBetween 31 = .ok (.iload_n 0, 1) := by decide +kernel
theorem dX2_isBetween_32 : decode cX2_isBetween 32 = .ok (.iload_n 2, 1) := by decide +kernel
theorem dX2_isBetween_33 : decode cX2_isBetween 33 = .ok (.if_icmp .ge 7, 3) := by decide +kernel
theorem dX2_isBetween_36 : decode cX2_isBetween 36 = .ok (.iconst 1, 1) := by decide +kernel
theorem dX2_isBetween_37 : decode cX2_isBetween 37 = .ok (.goto 4, 3) := by decide +kernel
theorem dX2_isBetween_40 : decode cX2_isBetween 40 = .ok (.iconst 0, 1) := by decide +kernel
theorem dX2_isBetween_41 : decode cX2_isBetween 41 = .ok (.ireturn, 1) := by decide +kernel
theorem dX3_init_0 : decode cX3_init 0 = .ok (.aload_n 0, 1) := by decide +kernel
theorem dX3_init_1 : decode cX3_init 1 = .ok (.invokespecial 3, 3) := by decide +kernel
theorem dX3_init_4 : decode cX3_init 4 = .ok (.aload_n 0, 1) := by decide +kernel
theorem dX3_init_5 : decode cX3_init 5 = .ok (.new 9, 3) := by decide +kernel
theorem dX3_init_8 : decode cX3_init 8 = .ok (.dup, 1) := by decide +kernel
theorem dX3_init_9 : decode cX3_init 9 = .ok (.bipush 40, 2) := by decide +kernel
theorem dX3_init_11 : decode cX3_init 11 = .ok (.iconst 2, 1) := by decide +kernel
theorem dX3_init_12 : decode cX3_init 12 = .ok (.invokespecial 11, 3) := by decide +kernel
theorem dX3_init_15 : decode cX3_init 15 = .ok (.putfield 14, 3) := by decide +kernel
theorem dX3_init_18 : decode cX3_init 18 = .ok (.aload_n 0, 1) := by decide +kernel
theorem dX3_init_19 : decode cX3_init 19 = .ok (.iconst 0, 1) := by decide +kernel
theorem dX3_init_20 : decode cX3_init 20 = .ok (.putfield 20, 3) := by decide +kernel
theorem dX3_init_23 : decode cX3_init 23 = .ok (.return_, 1) := by decide +kernel
theorem dX3_read_0 : decode cX3_read 0 = .ok (.aload_n 0, 1) := by decide +kernel
theorem dX3_read_1 : decode cX3_read 1 = .ok (.getfield 14, 3) := by decide +kernel
theorem dX3_read_4 : decode cX3_read 4 = .ok (.invokevirtual 24, 3) := by decide +kernel
theorem dX3_read_7 : decode cX3_read 7 = .ok (.aload_n 0, 1) := by decide +kernel
theorem dX3_read_8 : decode cX3_read 8 = .ok (.iconst 0, 1) := by decide +kernel
theorem dX3_read_9 : decode cX3_read 9 = .ok (.putfield 20, 3) := by decide +kernel
theorem dX3_read_12 : decode cX3_read 12 = .ok (.iconst 0, 1) := by decide +kernel
theorem dX3_read_13 : decode cX3_read 13 = .ok (.istore_n 2, 1) := by decide +kernel
theorem dX3_read_14 : decode cX3_read 14 = .ok (.iload_n 2, 1) := by decide +kernel
theorem dX3_read_15 : decode cX3_read 15 = .ok (.aload_n 1, 1) := by decide +kernel
theorem dX3_read_16 : decode cX3_read 16 = .ok (.invokevirtual 27, 3) := by decide +kernel
theorem dX3_read_19 : decode cX3_read 19 = .ok (.if_icmp .ge 42, 3) := by decide +kernel
theorem dX3_read_22 : decode cX3_read 22 = .ok (.aload_n 1, 1) := by decide +kernel
theorem dX3_read_23 : decode cX3_read 23 = .ok (.iload_n 2, 1) := by decide +kernel
theorem dX3_read_24 : decode cX3_read 24 = .ok (.invokestatic 31, 3) := by decide +kernel
theorem dX3_read_27 : decode cX3_read 27 = .ok (.ifCond .eq 12, 3) := by decide +kernel
theorem dX3_read_30 : decode cX3_read 30 = .ok (.aload_n 0, 1) := by decide +kernel
theorem dX3_read_31 : decode cX3_read 31 = .ok (.aload_n 1, 1) := by decide +kernel
theorem dX3_read_32 : decode cX3_read 32 = .ok (.iload_n 2, 1) := by decide +kernel
theorem dX3_read_33 : decode cX3_read 33 = .ok (.invokevirtual 35, 3) := by decide +kernel
theorem dX3_read_36 : decode cX3_read 36 = .ok (.goto 19, 3) := by decide +kernel
theorem dX3_read_39 : decode cX3_read 39 = .ok (.aload_n 1, 1) := by decide +kernel
theorem dX3_read_40 : decode cX3_read 40 = .ok (.iload_n 2, 1) := by decide +kernel
theorem dX3_read_41 : decode cX3_read 41 = .ok (.iconst 1, 1) := by decide +kernel
theorem dX3_read_42 : decode cX3_read 42 = .ok (.isub, 1) := by decide +kernel
theorem dX3_read_43 : decode cX3_read 43 = .ok (.invokestatic 31, 3) := by decide +kernel
theorem dX3_read_46 : decode cX3_read 46 = .ok (.ifCond .ne 9, 3) := by decide +kernel
theorem dX3_read_49 : decode cX3_read 49 = .ok (.aload_n 0, 1) := by decide +kernel
theorem dX3_read_50 : decode cX3_read 50 = .ok (.aload_n 1, 1) := by decide +kernel
theorem dX3_read_51 : decode cX3_read 51 = .ok (.iload_n 2, 1) := by decide +kernel
theorem dX3_read_52 : decode cX3_read 52 = .ok (.invokevirtual 39, 3) := by decide +kernel
theorem dX3_read_55 : decode cX3_read 55 = .ok (.iinc 2 1, 3) := by decide +kernel
theorem dX3_read_58 : decode cX3_read 58 = .ok (.goto (-44), 3) := by decide +kernel
theorem dX3_read_61 : decode cX3_read 61 = .ok (.return_, 1) := by decide +kernel
theorem dX3_addFromIn_0 : decode cX3_addFromIn 0 = .ok (.aload_n 1, 1) := by decide +kernel
theorem dX3_addFromIn_1 : decode cX3_addFromIn 1 = .ok (.iload_n 2, 1) := by decide +kernel
theorem dX3_addFromIn_2 : decode cX3_addFromIn 2 = .ok (.iconst 0, 1) := by decide +kernel
theorem dX3_addFromIn_3 : decode cX3_addFromIn 3 = .ok (.invokevirtual 42, 3) := by decide +kernel
theorem dX3_addFromIn_6 : decode cX3_addFromIn 6 = .ok (.istore_n 3, 1) := by decide +kernel
theorem dX3_addFromIn_7 : decode cX3_addFromIn 7 = .ok (.iload_n 2, 1) := by decide +kernel
theorem dX3_addFromIn_8 : decode cX3_addFromIn 8 = .ok (.iconst 1, 1) := by decide +kernel
theorem dX3_addFromIn_9 : decode cX3_addFromIn 9 = .ok (.iadd, 1) := by decide +kernel
theorem dX3_addFromIn_10 : decode cX3_addFromIn 10 = .ok (.aload_n 1, 1) := by decide +kernel
theorem dX3_addFromIn_11 : decode cX3_addFromIn 11 = .ok (.invokevirtual 27, 3) := by decide +kernel
theorem dX3_addFromIn_14 : decode cX3_addFromIn 14 = .ok (.if_icmp .lt 7, 3) := by decide +kernel
theorem dX3_addFromIn_17 : decode cX3_addFromIn 17 = .ok (.iconst 1, 1) := by decide +kernel
theorem dX3_addFromIn_18 : decode cX3_addFromIn 18 = .ok (.goto 4, 3) := by decide +kernel
theorem dX3_addFromIn_21 : decode cX3_addFromIn 21 = .ok (.iconst 0, 1) := by decide +kernel
theorem dX3_addFromIn_22 : decode cX3_addFromIn 22 = .ok (.istore 4, 2) := by decide +kernel
theorem dX3_addFromIn_24 : decode cX3_addFromIn 24 = .ok (.iload 4, 2) := by decide +kernel
theorem dX3_addFromIn_26 : decode cX3_addFromIn 26 = .ok (.ifCond .eq 9, 3) := by decide +kernel
theorem dX3_addFromIn_29 : decode cX3_addFromIn 29 = .ok (.sipush 10080, 3) := by decide +kernel
theorem dX3_addFromIn_32 : decode cX3_addFromIn 32 = .ok (.goto 11, 3) := by decide +kernel
theorem dX3_addFromIn_35 : decode cX3_addFromIn 35 = .ok (.aload_n 1, 1) := by decide +kernel
theorem dX3_addFromIn_36 : decode cX3_addFromIn 36 = .ok (.iload_n 2, 1) := by decide +kernel
theorem dX3_addFromIn_37 : decode cX3_addFromIn 37 = .ok (.iconst 1, 1) := by decide +kernel
theorem dX3_addFromIn_38 : decode cX3_addFromIn 38 = .ok (.iadd, 1) := by decide +kernel
theorem dX3_addFromIn_39 : decode cX3_addFromIn 39 = .ok (.iconst 0, 1) := by decide +kernel
theorem dX3_addFromIn_40 : decode cX3_addFromIn 40 = .ok (.invokevirtual 42, 3) := by decide +kernel
theorem dX3_addFromIn_43 : decode cX3_addFromIn 43 = .ok (.istore 5, 2) := by decide +kernel
theorem dX3_addFromIn_45 : decode cX3_addFromIn 45 = .ok (.iload 4, 2) := by decide +kernel
theorem dX3_addFromIn_47 : decode cX3_addFromIn 47 = .ok (.ifCond .ne 13, 3) := by decide +kernel
theorem dX3_addFromIn_50 : decode cX3_addFromIn 50 = .ok (.aload_n 1, 1) := by decide +kernel
theorem dX3_addFromIn_51 : decode cX3_addFromIn 51 = .ok (.iload_n 2, 1) := by decide +kernel
theorem dX3_addFromIn_52 : decode cX3_addFromIn 52 = .ok (.iconst 1, 1) := by decide +kernel
theorem dX3_addFromIn_53 : decode cX3_addFromIn 53 = .ok (.iadd, 1) := by decide +kernel
theorem dX3_addFromIn_54 : decode cX3_addFromIn 54 = .ok (.invokestatic 31, 3) := by decide +kernel
theorem dX3_addFromIn_57 : decode cX3_addFromIn 57 = .ok (.ifCond .eq 34, 3) := by decide +kernel
theorem dX3_addFromIn_60 : decode cX3_addFromIn 60 = .ok (.aload_n 0, 1) := by decide +kernel
theorem dX3_addFromIn_61 : decode cX3_addFromIn 61 = .ok (.dup, 1) := by decide +kernel
theorem dX3_addFromIn_62 : decode cX3_addFromIn 62 = .ok (.getfield 20, 3) := by decide +kernel
theorem dX3_addFromIn_65 : decode cX3_addFromIn 65 = .ok (.iconst 1, 1) := by decide +kernel
theorem dX3_addFromIn_66 : decode cX3_addFromIn 66 = .ok (.iadd, 1) := by decide +kernel
theorem dX3_addFromIn_67 : decode cX3_addFromIn 67 = .ok (.putfield 20, 3) := by decide +kernel
theorem dX3_addFromIn_70 : decode cX3_addFromIn 70 = .ok (.aload_n 0, 1) := by decide +kernel
theorem dX3_addFromIn_71 : decode cX3_addFromIn 71 = .ok (.getfield 14, 3) := by decide +kernel
theorem dX3_addFromIn_74 : decode cX3_addFromIn 74 = .ok (.iload_n 3, 1) := by decide +kernel
theorem dX3_addFromIn_75 : decode cX3_addFromIn 75 = .ok (.iload_n 3, 1) := by decide +kernel
theorem dX3_addFromIn_76 : decode cX3_addFromIn 76 = .ok (.sipush 480, 3) := by decide +kernel
theorem dX3_addFromIn_79 : decode cX3_addFromIn 79 = .ok (.iadd, 1) := by decide +kernel
theorem dX3_addFromIn_80 : decode cX3_addFromIn 80 = .ok (.iload 5, 2) := by decide +kernel
theorem dX3_addFromIn_82 : decode cX3_addFromIn 82 = .ok (.invokestatic 46, 3) := by decide +kernel
theorem dX3_addFromIn_85 : decode cX3_addFromIn 85 = .ok (.invokevirtual 51, 3) := by decide +kernel
theorem dX3_addFromIn_88 : decode cX3_addFromIn 88 = .ok (.goto 13, 3) := by decide +kernel
theorem dX3_addFromIn_91 : decode cX3_addFromIn 91 = .ok (.aload_n 0, 1) := by decide +kernel
theorem dX3_addFromIn_92 : decode cX3_addFromIn 92 = .ok (.getfield 14, 3) := by decide +kernel
theorem dX3_addFromIn_95 : decode cX3_addFromIn 95 = .ok (.iload_n 3, 1) := by decide +kernel
theorem dX3_addFromIn_96 : decode cX3_addFromIn 96 = .ok (.iload 5, 2) := by decide +kernel
theorem dX3_addFromIn_98 : decode cX3_addFromIn 98 = .ok (.invokevirtual 51, 3) := by decide +kernel
theorem dX3_addFromIn_101 : decode cX3_addFromIn 101 = .ok (.return_, 1) := by decide +kernel
theorem dX3_addFromLoneOut_0 : decode cX3_addFromLoneOut 0 = .ok (.aload_n 1, 1) := by decide +kernel
theorem dX3_addFromLoneOut_1 : decode cX3_addFromLoneOut 1 = .ok (.iload_n 2, 1) := by decide +kernel
theorem dX3_addFromLoneOut_2 : decode cX3_addFromLoneOut 2 = .ok (.iconst 0, 1) := by decide +kernel
theorem dX3_addFromLoneOut_3 : decode cX3_addFromLoneOut 3 = .ok (.invokevirtual 42, 3) := by decide +kernel
theorem dX3_addFromLoneOut_6 : decode cX3_addFromLoneOut 6 = .ok (.istore_n 3, 1) := by decide +kernel
theorem dX3_addFromLoneOut_7 : decode cX3_addFromLoneOut 7 = .ok (.iload_n 2, 1) := by decide +kernel
theorem dX3_addFromLoneOut_8 : decode cX3_addFromLoneOut 8 = .ok (.ifCond .ne 7, 3) := by decide +kernel
theorem dX3_addFromLoneOut_11 : decode cX3_addFromLoneOut 11 = .ok (.iconst 0, 1) := by decide +kernel
theorem dX3_addFromLoneOut_12 : decode cX3_addFromLoneOut 12 = .ok (.goto 11, 3) := by decide +kernel
theorem dX3_addFromLoneOut_15 : decode cX3_addFromLoneOut 15 = .ok (.aload_n 1, 1) := by decide +kernel
theorem dX3_addFromLoneOut_16 : decode cX3_addFromLoneOut 16 = .ok (.iload_n 2, 1) := by decide +kernel
theorem dX3_addFromLoneOut_17 : decode cX3_addFromLoneOut 17 = .ok (.iconst 1, 1) := by decide +kernel
theorem dX3_addFromLoneOut_18 : decode cX3_addFromLoneOut 18 = .ok (.isub, 1) := by decide +kernel
theorem dX3_addFromLoneOut_19 : decode cX3_addFromLoneOut 19 = .ok (.iconst 0, 1) := by decide +kernel
theorem dX3_addFromLoneOut_20 : decode cX3_addFromLoneOut 20 = .ok (.invokevirtual 42, 3) := by decide +kernel
theorem dX3_addFromLoneOut_23 : decode cX3_addFromLoneOut 23 = .ok (.istore 4, 2) := by decide +kernel
theorem dX3_addFromLoneOut_25 : decode cX3_addFromLoneOut 25 = .ok (.aload_n 0, 1) := by decide +kernel
theorem dX3_addFromLoneOut_26 : decode cX3_addFromLoneOut 26 = .ok (.dup, 1) := by decide +kernel
theorem dX3_addFromLoneOut_27 : decode cX3_addFromLoneOut 27 = .ok (.getfield 20, 3) := by decide +kernel
theorem dX3_addFromLoneOut_30 : decode cX3_addFromLoneOut 30 = .ok (.iconst 1, 1) := by decide +kernel
theorem dX3_addFromLoneOut_31 : decode cX3_addFromLoneOut 31 = .ok (.iadd, 1) := by decide +kernel
theorem dX3_addFromLoneOut_32 : decode cX3_addFromLoneOut 32 = .ok (.putfield 20, 3) := by decide +kernel
theorem dX3_addFromLoneOut_35 : decode cX3_addFromLoneOut 35 = .ok (.aload_n 0, 1) := by decide +kernel
theorem dX3_addFromLoneOut_36 : decode cX3_addFromLoneOut 36 = .ok (.getfield 14, 3) := by decide +kernel
theorem dX3_addFromLoneOut_39 : decode cX3_addFromLoneOut 39 = .ok (.iload_n 3, 1) := by decide +kernel
theorem dX3_addFromLoneOut_40 : decode cX3_addFromLoneOut 40 = .ok (.sipush 480, 3) := by decide +kernel
theorem dX3_addFromLoneOut_43 : decode cX3_addFromLoneOut 43 = .ok (.isub, 1) := by decide +kernel
theorem dX3_addFromLoneOut_44 : decode cX3_addFromLoneOut 44 = .ok (.iload 4, 2) := by decide +kernel
theorem dX3_addFromLoneOut_46 : decode cX3_addFromLoneOut 46 = .ok (.invokestatic 54, 3) := by decide +kernel
theorem dX3_addFromLoneOut_49 : decode cX3_addFromLoneOut 49 = .ok (.iload_n 3, 1) := by decide +kernel
theorem dX3_addFromLoneOut_50 : decode cX3_addFromLoneOut 50 = .ok (.invokevirtual 51, 3) := by decide +kernel
theorem dX3_addFromLoneOut_53 : decode cX3_addFromLoneOut 53 = .ok (.return_, 1) := by decide +kernel
theorem dX3_isIn_0 : decode cX3_isIn 0 = .ok (.aload_n 0, 1) := by decide +kernel
theorem dX3_isIn_1 : decode cX3_isIn 1 = .ok (.iload_n 1, 1) := by decide +kernel
theorem dX3_isIn_2 : decode cX3_isIn 2 = .ok (.iconst 1, 1) := by decide +kernel
theorem dX3_isIn_3 : decode cX3_isIn 3 = .ok (.invokevirtual 42, 3) := by decide +kernel
theorem dX3_isIn_6 : decode cX3_isIn 6 = .ok (.iconst 1, 1) := by decide +kernel
theorem dX3_isIn_7 : decode cX3_isIn 7 = .ok (.if_icmp .ne 7, 3) := by decide +kernel
theorem dX3_isIn_10 : decode cX3_isIn 10 = .ok (.iconst 1, 1) := by decide +kernel
theorem dX3_isIn_11 : decode cX3_isIn 11 = .ok (.goto 4, 3) := by decide +kernel
theorem dX3_isIn_14 : decode cX3_isIn 14 = .ok (.iconst 0, 1) := by decide +kernel
theorem dX3_isIn_15 : decode cX3_isIn 15 = .ok (.ireturn, 1) := by decide +kernel
theorem dX5_init_0 : decode cX5_init 0 = .ok (.aload_n 0, 1) := by decide +kernel
theorem dX5_init_1 : decode cX5_init 1 = .ok (.invokespecial 3, 3) := by decide +kernel
theorem dX5_init_4 : decode cX5_init 4 = .ok (.aload_n 0, 1) := by decide +kernel
theorem dX5_init_5 : decode cX5_init 5 = .ok (.new 9, 3) := by decide +kernel
theorem dX5_init_8 : decode cX5_init 8 = .ok (.dup, 1) := by decide +kernel
theorem dX5_init_9 : decode cX5_init 9 = .ok (.invokespecial 11, 3) := by decide +kernel
theorem dX5_init_12 : decode cX5_init 12 = .ok (.putfield 12, 3) := by decide +kernel
theorem dX5_init_15 : decode cX5_init 15 = .ok (.aload_n 0, 1) := by decide +kernel
theorem dX5_init_16 : decode cX5_init 16 = .ok (.new 18, 3) := by decide +kernel
theorem dX5_init_19 : decode cX5_init 19 = .ok (.dup, 1) := by decide +kernel
theorem dX5_init_20 : decode cX5_init 20 = .ok (.sipush 160, 3) := by decide +kernel
theorem dX5_init_23 : decode cX5_init 23 = .ok (.iconst 3, 1) := by decide +kernel
theorem dX5_init_24 : decode cX5_init 24 = .ok (.invokespecial 20, 3) := by decide +kernel
theorem dX5_init_27 : decode cX5_init 27 = .ok (.putfield 23, 3) := by decide +kernel
theorem dX5_init_30 : decode cX5_init 30 = .ok (.aload_n 0, 1) := by decide +kernel
theorem dX5_init_31 : decode cX5_init 31 = .ok (.new 18, 3) := by decide +kernel
theorem dX5_init_34 : decode cX5_init 34 = .ok (.dup, 1) := by decide +kernel
theorem dX5_init_35 : decode cX5_init 35 = .ok (.bipush 80, 2) := by decide +kernel
theorem dX5_init_37 : decode cX5_init 37 = .ok (.iconst 2, 1) := by decide +kernel
theorem dX5_init_38 : decode cX5_init 38 = .ok (.invokespecial 20, 3) := by decide +kernel
theorem dX5_init_41 : decode cX5_init 41 = .ok (.putfield 27, 3) := by decide +kernel
theorem dX5_init_44 : decode cX5_init 44 = .ok (.aload_n 0, 1) := by decide +kernel
theorem dX5_init_45 : decode cX5_init 45 = .ok (.iconst 0, 1) := by decide +kernel
theorem dX5_init_46 : decode cX5_init 46 = .ok (.putfield 30, 3) := by decide +kernel
theorem dX5_init_49 : decode cX5_init 49 = .ok (.return_, 1) := by decide +kernel
theorem dX5_read_0 : decode cX5_read 0 = .ok (.aload_n 0, 1) := by decide +kernel
theorem dX5_read_1 : decode cX5_read 1 = .ok (.getfield 12, 3) := by decide +kernel
theorem dX5_read_4 : decode cX5_read 4 = .ok (.aload_n 1, 1) := by decide +kernel
theorem dX5_read_5 : decode cX5_read 5 = .ok (.getfield 34, 3) := by decide +kernel
theorem dX5_read_8 : decode cX5_read 8 = .ok (.invokevirtual 39, 3) := by decide +kernel
theorem dX5_read_11 : decode cX5_read 11 = .ok (.aload_n 0, 1) := by decide +kernel
theorem dX5_read_12 : decode cX5_read 12 = .ok (.getfield 23, 3) := by decide +kernel
theorem dX5_read_15 : decode cX5_read 15 = .ok (.invokevirtual 43, 3) := by decide +kernel
theorem dX5_read_18 : decode cX5_read 18 = .ok (.aload_n 0, 1) := by decide +kernel
theorem dX5_read_19 : decode cX5_read 19 = .ok (.aload_n 0, 1) := by decide +kernel
theorem dX5_read_20 : decode cX5_read 20 = .ok (.getfield 12, 3) := by decide +kernel
theorem dX5_read_23 : decode cX5_read 23 = .ok (.getfield 46, 3) := by decide +kernel
theorem dX5_read_26 : decode cX5_read 26 = .ok (.iconst 1, 1) := by decide +kernel
theorem dX5_read_27 : decode cX5_read 27 = .ok (.iconst 0, 1) := by decide +kernel
theorem dX5_read_28 : decode cX5_read 28 = .ok (.invokevirtual 49, 3) := by decide +kernel
theorem dX5_read_31 : decode cX5_read 31 = .ok (.aload_n 0, 1) := by decide +kernel
theorem dX5_read_32 : decode cX5_read 32 = .ok (.aload_n 1, 1) := by decide +kernel
theorem dX5_read_33 : decode cX5_read 33 = .ok (.getfield 53, 3) := by decide +kernel
theorem dX5_read_36 : decode cX5_read 36 = .ok (.iconst 1, 1) := by decide +kernel
theorem dX5_read_37 : decode cX5_read 37 = .ok (.iconst 0, 1) := by decide +kernel
theorem dX5_read_38 : decode cX5_read 38 = .ok (.invokevirtual 49, 3) := by decide +kernel
theorem dX5_read_41 : decode cX5_read 41 = .ok (.aload_n 0, 1) := by decide +kernel
theorem dX5_read_42 : decode cX5_read 42 = .ok (.aload_n 1, 1) := by decide +kernel
theorem dX5_read_43 : decode cX5_read 43 = .ok (.getfield 56, 3) := by decide +kernel
theorem dX5_read_46 : decode cX5_read 46 = .ok (.iconst 0, 1) := by decide +kernel
theorem dX5_read_47 : decode cX5_read 47 = .ok (.iconst 1, 1) := by decide +kernel
theorem dX5_read_48 : decode cX5_read 48 = .ok (.invokevirtual 49, 3) := by decide +kernel
theorem dX5_read_51 : decode cX5_read 51 = .ok (.aload_n 0, 1) := by decide +kernel
theorem dX5_read_52 : decode cX5_read 52 = .ok (.invokevirtual 59, 3) := by decide +kernel
theorem dX5_read_55 : decode cX5_read 55 = .ok (.return_, 1) := by decide +kernel
theorem dX5_addEvents_0 : decode cX5_addEvents 0 = .ok (.iconst 0, 1) := by decide +kernel
theorem dX5_addEvents_1 : decode cX5_addEvents 1 = .ok (.istore 4, 2) := by decide +kernel
theorem dX5_addEvents_3 : decode cX5_addEvents 3 = .ok (.iload 4, 2) := by decide +kernel
theorem dX5_addEvents_5 : decode cX5_addEvents 5 = .ok (.aload_n 1, 1) := by decide +kernel
theorem dX5_addEvents_6 : decode cX5_addEvents 6 = .ok (.invokevirtual 62, 3) := by decide +kernel
theorem dX5_addEvents_9 : decode cX5_addEvents 9 = .ok (.if_icmp .ge 37, 3) := by decide +kernel
theorem dX5_addEvents_12 : decode cX5_addEvents 12 = .ok (.aload_n 0, 1) := by decide +kernel
theorem dX5_addEvents_13 : decode cX5_addEvents 13 = .ok (.aload_n 1, 1) := by decide +kernel
theorem dX5_addEvents_14 : decode cX5_addEvents 14 = .ok (.iload 4, 2) := by decide +kernel
theorem dX5_addEvents_16 : decode cX5_addEvents 16 = .ok (.iconst 0, 1) := by decide +kernel
theorem dX5_addEvents_17 : decode cX5_addEvents 17 = .ok (.invokevirtual 66, 3) := by decide +kernel
theorem dX5_addEvents_20 : decode cX5_addEvents 20 = .ok (.iload_n 2, 1) := by decide +kernel
theorem dX5_addEvents_21 : decode cX5_addEvents 21 = .ok (.iload_n 3, 1) := by decide +kernel
theorem dX5_addEvents_22 : decode cX5_addEvents 22 = .ok (.invokevirtual 70, 3) := by decide +kernel
theorem dX5_addEvents_25 : decode cX5_addEvents 25 = .ok (.aload_n 0, 1) := by decide +kernel
theorem dX5_addEvents_26 : decode cX5_addEvents 26 = .ok (.aload_n 1, 1) := by decide +kernel
theorem dX5_addEvents_27 : decode cX5_addEvents 27 = .ok (.iload 4, 2) := by decide +kernel
theorem dX5_addEvents_29 : decode cX5_addEvents 29 = .ok (.iconst 1, 1) := by decide +kernel
theorem dX5_addEvents_30 : decode cX5_addEvents 30 = .ok (.invokevirtual 66, 3) := by decide +kernel
theorem dX5_addEvents_33 : decode cX5_addEvents 33 = .ok (.iload_n 2, 1) := by decide +kernel
theorem dX5_addEvents_34 : decode cX5_addEvents 34 = .ok (.ineg, 1) := by decide +kernel
theorem dX5_addEvents_35 : decode cX5_addEvents 35 = .ok (.iload_n 3, 1) := by decide +kernel
theorem dX5_addEvents_36 : decode cX5_addEvents 36 = .ok (.ineg, 1) := by decide +kernel
theorem dX5_addEvents_37 : decode cX5_addEvents 37 = .ok (.invokevirtual 70, 3) := by decide +kernel
theorem dX5_addEvents_40 : decode cX5_addEvents 40 = .ok (.iinc 4 1, 3) := by decide +kernel
theorem dX5_addEvents_43 : decode cX5_addEvents 43 = .ok (.goto (-40), 3) := by decide +kernel
theorem dX5_addEvents_46 : decode cX5_addEvents 46 = .ok (.return_, 1) := by decide +kernel
theorem dX5_addEvent_0 : decode cX5_addEvent 0 = .ok (.aload_n 0, 1) := by decide +kernel
theorem dX5_addEvent_1 : decode cX5_addEvent 1 = .ok (.getfield 23, 3) := by decide +kernel
theorem dX5_addEvent_4 : decode cX5_addEvent 4 = .ok (.invokevirtual 62, 3) := by decide +kernel
theorem dX5_addEvent_7 : decode cX5_addEvent 7 = .ok (.istore 4, 2) := by decide +kernel
theorem dX5_addEvent_9 : decode cX5_addEvent 9 = .ok (.iload 4, 2) := by decide +kernel
theorem dX5_addEvent_11 : decode cX5_addEvent 11 = .ok (.iconst 1, 1) := by decide +kernel
theorem dX5_addEvent_12 : decode cX5_addEvent 12 = .ok (.isub, 1) := by decide +kernel
theorem dX5_addEvent_13 : decode cX5_addEvent 13 = .ok (.istore 5, 2) := by decide +kernel
theorem dX5_addEvent_15 : decode cX5_addEvent 15 = .ok (.iload 5, 2) := by decide +kernel
theorem dX5_addEvent_17 : decode cX5_addEvent 17 = .ok (.ifCond .lt 27, 3) := by decide +kernel
theorem dX5_addEvent_20 : decode cX5_addEvent 20 = .ok (.aload_n 0, 1) := by decide +kernel
theorem dX5_addEvent_21 : decode cX5_addEvent 21 = .ok (.getfield 23, 3) := by decide +kernel
theorem dX5_addEvent_24 : decode cX5_addEvent 24 = .ok (.iload 5, 2) := by decide +kernel
theorem dX5_addEvent_26 : decode cX5_addEvent 26 = .ok (.iconst 0, 1) := by decide +kernel
theorem dX5_addEvent_27 : decode cX5_addEvent 27 = .ok (.invokevirtual 66, 3) := by decide +kernel
theorem dX5_addEvent_30 : decode cX5_addEvent 30 = .ok (.iload_n 1, 1) := by decide +kernel
theorem dX5_addEvent_31 : decode cX5_addEvent 31 = .ok (.if_icmp .le 13, 3) := by decide +kernel
theorem dX5_addEvent_34 : decode cX5_addEvent 34 = .ok (.iload 5, 2) := by decide +kernel
theorem dX5_addEvent_36 : decode cX5_addEvent 36 = .ok (.istore 4, 2) := by decide +kernel
theorem dX5_addEvent_38 : decode cX5_addEvent 38 = .ok (.iinc 5 (-1), 3) := by decide +kernel
theorem dX5_addEvent_41 : decode cX5_addEvent 41 = .ok (.goto (-26), 3) := by decide +kernel
theorem dX5_addEvent_44 : decode cX5_addEvent 44 = .ok (.aload_n 0, 1) := by decide +kernel
theorem dX5_addEvent_45 : decode cX5_addEvent 45 = .ok (.getfield 23, 3) := by decide +kernel
theorem dX5_addEvent_48 : decode cX5_addEvent 48 = .ok (.iload 4, 2) := by decide +kernel
theorem dX5_addEvent_50 : decode cX5_addEvent 50 = .ok (.invokevirtual 74, 3) := by decide +kernel
theorem dX5_addEvent_53 : decode cX5_addEvent 53 = .ok (.aload_n 0, 1) := by decide +kernel
theorem dX5_addEvent_54 : decode cX5_addEvent 54 = .ok (.getfield 23, 3) := by decide +kernel
theorem dX5_addEvent_57 : decode cX5_addEvent 57 = .ok (.iload 4, 2) := by decide +kernel
theorem dX5_addEvent_59 : decode cX5_addEvent 59 = .ok (.iconst 0, 1) := by decide +kernel
theorem dX5_addEvent_60 : decode cX5_addEvent 60 = .ok (.iload_n 1, 1) := by decide +kernel
theorem dX5_addEvent_61 : decode cX5_addEvent 61 = .ok (.invokevirtual 78, 3) := by decide +kernel
theorem dX5_addEvent_64 : decode cX5_addEvent 64 = .ok (.aload_n 0, 1) := by decide +kernel
theorem dX5_addEvent_65 : decode cX5_addEvent 65 = .ok (.getfield 23, 3) := by decide +kernel
theorem dX5_addEvent_68 : decode cX5_addEvent 68 = .ok (.iload 4, 2) := by decide +kernel
theorem dX5_addEvent_70 : decode cX5_addEvent 70 = .ok (.iconst 1, 1) := by decide +kernel
theorem dX5_addEvent_71 : decode cX5_addEvent 71 = .ok (.iload_n 2, 1) := by decide +kernel
theorem dX5_addEvent_72 : decode cX5_addEvent 72 = .ok (.invokevirtual 78, 3) := by decide +kernel
theorem dX5_addEvent_75 : decode cX5_addEvent 75 = .ok (.aload_n 0, 1) := by decide +kernel
theorem dX5_addEvent_76 : decode cX5_addEvent 76 = .ok (.getfield 23, 3) := by decide +kernel
theorem dX5_addEvent_79 : decode cX5_addEvent 79 = .ok (.iload 4, 2) := by decide +kernel
theorem dX5_addEvent_81 : decode cX5_addEvent 81 = .ok (.iconst 2, 1) := by decide +kernel
theorem dX5_addEvent_82 : decode cX5_addEvent 82 = .ok (.iload_n 3, 1) := by decide +kernel
theorem dX5_addEvent_83 : decode cX5_addEvent 83 = .ok (.invokevirtual 78, 3) := by decide +kernel
theorem dX5_addEvent_86 : decode cX5_addEvent 86 = .ok (.return_, 1) := by decide +kernel
theorem dX5_goThroughEvents_0 : decode cX5_goThroughEvents 0 = .ok (.aload_n 0, 1) := by decide +kernel
theorem dX5_goThroughEvents_1 : decode cX5_goThroughEvents 1 = .ok (.getfield 27, 3) := by decide +kernel
theorem dX5_goThroughEvents_4 : decode cX5_goThroughEvents 4 = .ok (.invokevirtual 43, 3) := by decide +kernel
theorem dX5_goThroughEvents_7 : decode cX5_goThroughEvents 7 = .ok (.aload_n 0, 1) := by decide +kernel
theorem dX5_goThroughEvents_8 : decode cX5_goThroughEvents 8 = .ok (.iconst 0, 1) := by decide +kernel
theorem dX5_goThroughEvents_9 : decode cX5_goThroughEvents 9 = .ok (.putfield 30, 3) := by decide +kernel
theorem dX5_goThroughEvents_12 : decode cX5_goThroughEvents 12 = .ok (.iconst 0, 1) := by decide +kernel
theorem dX5_goThroughEvents_13 : decode cX5_goThroughEvents 13 = .ok (.istore_n 1, 1) := by decide +kernel
theorem dX5_goThroughEvents_14 : decode cX5_goThroughEvents 14 = .ok (.iconst 0, 1) := by decide +kernel
theorem dX5_goThroughEvents_15 : decode cX5_goThroughEvents 15 = .ok (.istore_n 2, 1) := by decide +kernel
theorem dX5_goThroughEvents_16 : decode cX5_goThroughEvents 16 = .ok (.iconst 0, 1) := by decide +kernel
theorem dX5_goThroughEvents_17 : decode cX5_goThroughEvents 17 = .ok (.istore_n 3, 1) := by decide +kernel
theorem dX5_goThroughEvents_18 : decode cX5_goThroughEvents 18 = .ok (.iconst 0, 1) := by decide +kernel
theorem dX5_goThroughEvents_19 : decode cX5_goThroughEvents 19 = .ok (.istore 4, 2) := by decide +kernel
theorem dX5_goThroughEvents_21 : decode cX5_goThroughEvents 21 = .ok (.iload 4, 2) := by decide +kernel
theorem dX5_goThroughEvents_23 : decode cX5_goThroughEvents 23 = .ok (.aload_n 0, 1) := by decide +kernel
theorem dX5_goThroughEvents_24 : decode cX5_goThroughEvents 24 = .ok (.getfield 23, 3) := by decide +kernel
theorem dX5_goThroughEvents_27 : decode cX5_goThroughEvents 27 = .ok (.invokevirtual 62, 3) := by decide +kernel
theorem dX5_goThroughEvents_30 : decode cX5_goThroughEvents 30 = .ok (.if_icmp .ge 90, 3) := by decide +kernel
theorem dX5_goThroughEvents_33 : decode cX5_goThroughEvents 33 = .ok (.aload_n 0, 1) := by decide +kernel
theorem dX5_goThroughEvents_34 : decode cX5_goThroughEvents 34 = .ok (.getfield 23, 3) := by decide +kernel
theorem dX5_goThroughEvents_37 : decode cX5_goThroughEvents 37 = .ok (.iload 4, 2) := by decide +kernel
theorem dX5_goThroughEvents_39 : decode cX5_goThroughEvents 39 = .ok (.iconst 0, 1) := by decide +kernel
theorem dX5_goThroughEvents_40 : decode cX5_goThroughEvents 40 = .ok (.invokevirtual 66, 3) := by decide +kernel
theorem dX5_goThroughEvents_43 : decode cX5_goThroughEvents 43 = .ok (.istore 5, 2) := by decide +kernel
theorem dX5_goThroughEvents_45 : decode cX5_goThroughEvents 45 = .ok (.iload_n 1, 1) := by decide +kernel
theorem dX5_goThroughEvents_46 : decode cX5_goThroughEvents 46 = .ok (.iconst 2, 1) := by decide +kernel
theorem dX5_goThroughEvents_47 : decode cX5_goThroughEvents 47 = .ok (.if_icmp .lt 16, 3) := by decide +kernel
theorem dX5_goThroughEvents_50 : decode cX5_goThroughEvents 50 = .ok (.aload_n 0, 1) := by decide +kernel
theorem dX5_goThroughEvents_51 : decode cX5_goThroughEvents 51 = .ok (.dup, 1) := by decide +kernel
theorem dX5_goThroughEvents_52 : decode cX5_goThroughEvents 52 = .ok (.getfield 30, 3) := by decide +kernel
theorem dX5_goThroughEvents_55 : decode cX5_goThroughEvents 55 = .ok (.iload 5, 2) := by decide +kernel
theorem dX5_goThroughEvents_57 : decode cX5_goThroughEvents 57 = .ok (.iload_n 3, 1) := by decide +kernel
theorem dX5_goThroughEvents_58 : decode cX5_goThroughEvents 58 = .ok (.isub, 1) := by decide +kernel
theorem dX5_goThroughEvents_59 : decode cX5_goThroughEvents 59 = .ok (.iadd, 1) := by decide +kernel
theorem dX5_goThroughEvents_60 : decode cX5_goThroughEvents 60 = .ok (.putfield 30, 3) := by decide +kernel
theorem dX5_goThroughEvents_63 : decode cX5_goThroughEvents 63 = .ok (.iload 5, 2) := by decide +kernel
theorem dX5_goThroughEvents_65 : decode cX5_goThroughEvents 65 = .ok (.iload_n 3, 1) := by decide +kernel
theorem dX5_goThroughEvents_66 : decode cX5_goThroughEvents 66 = .ok (.if_icmp .le 19, 3) := by decide +kernel
theorem dX5_goThroughEvents_69 : decode cX5_goThroughEvents 69 = .ok (.iload_n 1, 1) := by decide +kernel
theorem dX5_goThroughEvents_70 : decode cX5_goThroughEvents 70 = .ok (.iconst 1, 1) := by decide +kernel
theorem dX5_goThroughEvents_71 : decode cX5_goThroughEvents 71 = .ok (.if_icmp .lt 14, 3) := by decide +kernel
theorem dX5_goThroughEvents_74 : decode cX5_goThroughEvents 74 = .ok (.iload_n 2, 1) := by decide +kernel
theorem dX5_goThroughEvents_75 : decode cX5_goThroughEvents 75 = .ok (.ifCond .ne 10, 3) := by decide +kernel
theorem dX5_goThroughEvents_78 : decode cX5_goThroughEvents 78 = .ok (.aload_n 0, 1) := by decide +kernel
theorem dX5_goThroughEvents_79 : decode cX5_goThroughEvents 79 = .ok (.iload_n 3, 1) := by decide +kernel
theorem dX5_goThroughEvents_80 : decode cX5_goThroughEvents 80 = .ok (.iload 5, 2) := by decide +kernel
theorem dX5_goThroughEvents_82 : decode cX5_goThroughEvents 82 = .ok (.invokevirtual 81, 3) := by decide +kernel
theorem dX5_goThroughEvents_85 : decode cX5_goThroughEvents 85 = .ok (.iload_n 1, 1) := by decide +kernel
theorem dX5_goThroughEvents_86 : decode cX5_goThroughEvents 86 = .ok (.aload_n 0, 1) := by decide +kernel
theorem dX5_goThroughEvents_87 : decode cX5_goThroughEvents 87 = .ok (.getfield 23, 3) := by decide +kernel
theorem dX5_goThroughEvents_90 : decode cX5_goThroughEvents 90 = .ok (.iload 4, 2) := by decide +kernel
theorem dX5_goThroughEvents_92 : decode cX5_goThroughEvents 92 = .ok (.iconst 1, 1) := by decide +kernel
theorem dX5_goThroughEvents_93 : decode cX5_goThroughEvents 93 = .ok (.invokevirtual 66, 3) := by decide +kernel
theorem dX5_goThroughEvents_96 : decode cX5_goThroughEvents 96 = .ok (.iadd, 1) := by decide +kernel
theorem dX5_goThroughEvents_97 : decode cX5_goThroughEvents 97 = .ok (.istore_n 1, 1) := by decide +kernel
theorem dX5_goThroughEvents_98 : decode cX5_goThroughEvents 98 = .ok (.iload_n 2, 1) := by decide +kernel
theorem dX5_goThroughEvents_99 : decode cX5_goThroughEvents 99 = .ok (.aload_n 0, 1) := by decide +kernel
theorem dX5_goThroughEvents_100 : decode cX5_goThroughEvents 100 = .ok (.getfield 23, 3) := by decide +kernel
theorem dX5_goThroughEvents_103 : decode cX5_goThroughEvents 103 = .ok (.iload 4, 2) := by decide +kernel
theorem dX5_goThroughEvents_105 : decode cX5_goThroughEvents 105 = .ok (.iconst 2, 1) := by decide +kernel
theorem dX5_goThroughEvents_106 : decode cX5_goThroughEvents 106 = .ok (.invokevirtual 66, 3) := by decide +kernel
theorem dX5_goThroughEvents_109 : decode cX5_goThroughEvents 109 = .ok (.iadd, 1) := by decide +kernel
theorem dX5_goThroughEvents_110 : decode cX5_goThroughEvents 110 = .ok (.istore_n 2, 1) := by decide +kernel
theorem dX5_goThroughEvents_111 : decode cX5_goThroughEvents 111 = .ok (.iload 5, 2) := by decide +kernel
theorem dX5_goThroughEvents_113 : decode cX5_goThroughEvents 113 = .ok (.istore_n 3, 1) := by decide +kernel
theorem dX5_goThroughEvents_114 : decode cX5_goThroughEvents 114 = .ok (.iinc 4 1, 3) := by decide +kernel
theorem dX5_goThroughEvents_117 : decode cX5_goThroughEvents 117 = .ok (.goto (-96), 3) := by decide +kernel
theorem dX5_goThroughEvents_120 : decode cX5_goThroughEvents 120 = .ok (.return_, 1) := by decide +kernel
theorem dX5_addWorked_0 : decode cX5_addWorked 0 = .ok (.aload_n 0, 1) := by decide +kernel
theorem dX5_addWorked_1 : decode cX5_addWorked 1 = .ok (.getfield 27, 3) := by decide +kernel
theorem dX5_addWorked_4 : decode cX5_addWorked 4 = .ok (.invokevirtual 62, 3) := by decide +kernel
theorem dX5_addWorked_7 : decode cX5_addWorked 7 = .ok (.iconst 1, 1) := by decide +kernel
theorem dX5_addWorked_8 : decode cX5_addWorked 8 = .ok (.isub, 1) := by decide +kernel
theorem dX5_addWorked_9 : decode cX5_addWorked 9 = .ok (.istore_n 3, 1) := by decide +kernel
theorem dX5_addWorked_10 : decode cX5_addWorked 10 = .ok (.iload_n 3, 1) := by decide +kernel
theorem dX5_addWorked_11 : decode cX5_addWorked 11 = .ok (.ifCond .lt 29, 3) := by decide +kernel
theorem dX5_addWorked_14 : decode cX5_addWorked 14 = .ok (.aload_n 0, 1) := by decide +kernel
theorem dX5_addWorked_15 : decode cX5_addWorked 15 = .ok (.getfield 27, 3) := by decide +kernel
theorem dX5_addWorked_18 : decode cX5_addWorked 18 = .ok (.iload_n 3, 1) := by decide +kernel
theorem dX5_addWorked_19 : decode cX5_addWorked 19 = .ok (.iconst 1, 1) := by decide +kernel
theorem dX5_addWorked_20 : decode cX5_addWorked 20 = .ok (.invokevirtual 66, 3) := by decide +kernel
theorem dX5_addWorked_23 : decode cX5_addWorked 23 = .ok (.iload_n 1, 1) := by decide +kernel
theorem dX5_addWorked_24 : decode cX5_addWorked 24 = .ok (.if_icmp .ne 16, 3) := by decide +kernel
theorem dX5_addWorked_27 : decode cX5_addWorked 27 = .ok (.aload_n 0, 1) := by decide +kernel
theorem dX5_addWorked_28 : decode cX5_addWorked 28 = .ok (.getfield 27, 3) := by decide +kernel
theorem dX5_addWorked_31 : decode cX5_addWorked 31 = .ok (.iload_n 3, 1) := by decide +kernel
theorem dX5_addWorked_32 : decode cX5_addWorked 32 = .ok (.iconst 1, 1) := by decide +kernel
theorem dX5_addWorked_33 : decode cX5_addWorked 33 = .ok (.iload_n 2, 1) := by decide +kernel
theorem dX5_addWorked_34 : decode cX5_addWorked 34 = .ok (.invokevirtual 78, 3) := by decide +kernel
theorem dX5_addWorked_37 : decode cX5_addWorked 37 = .ok (.goto 12, 3) := by decide +kernel
theorem dX5_addWorked_40 : decode cX5_addWorked 40 = .ok (.aload_n 0, 1) := by decide +kernel
theorem dX5_addWorked_41 : decode cX5_addWorked 41 = .ok (.getfield 27, 3) := by decide +kernel
theorem dX5_addWorked_44 : decode cX5_addWorked 44 = .ok (.iload_n 1, 1) := by decide +kernel
theorem dX5_addWorked_45 : decode cX5_addWorked 45 = .ok (.iload_n 2, 1) := by decide +kernel
theorem dX5_addWorked_46 : decode cX5_addWorked 46 = .ok (.invokevirtual 84, 3) := by decide +kernel
theorem dX5_addWorked_49 : decode cX5_addWorked 49 = .ok (.return_, 1) := by decide +kernel
theorem dX1_init_0 : decode cX1_init 0 = .ok (.aload_n 0, 1) := by decide +kernel
theorem dX1_init_1 : decode cX1_init 1 = .ok (.invokespecial 3, 3) := by decide +kernel
theorem dX1_init_4 : decode cX1_init 4 = .ok (.aload_n 0, 1) := by decide +kernel
theorem dX1_init_5 : decode cX1_init 5 = .ok (.new 9, 3) := by decide +kernel
theorem dX1_init_8 : decode cX1_init 8 = .ok (.dup, 1) := by decide +kernel
theorem dX1_init_9 : decode cX1_init 9 = .ok (.invokespecial 11, 3) := by decide +kernel
theorem dX1_init_12 : decode cX1_init 12 = .ok (.putfield 12, 3) := by decide +kernel
theorem dX1_init_15 : decode cX1_init 15 = .ok (.aload_n 0, 1) := by decide +kernel
theorem dX1_init_16 : decode cX1_init 16 = .ok (.new 18, 3) := by decide +kernel
theorem dX1_init_19 : decode cX1_init 19 = .ok (.dup, 1) := by decide +kernel
theorem dX1_init_20 : decode cX1_init 20 = .ok (.sipush 160, 3) := by decide +kernel
theorem dX1_init_23 : decode cX1_init 23 = .ok (.iconst 2, 1) := by decide +kernel
theorem dX1_init_24 : decode cX1_init 24 = .ok (.invokespecial 20, 3) := by decide +kernel
theorem dX1_init_27 : decode cX1_init 27 = .ok (.putfield 23, 3) := by decide +kernel
theorem dX1_init_30 : decode cX1_init 30 = .ok (.aload_n 0, 1) := by decide +kernel
theorem dX1_init_31 : decode cX1_init 31 = .ok (.new 18, 3) := by decide +kernel
theorem dX1_init_34 : decode cX1_init 34 = .ok (.dup, 1) := by decide +kernel
theorem dX1_init_35 : decode cX1_init 35 = .ok (.sipush 188, 3) := by decide +kernel
theorem dX1_init_38 : decode cX1_init 38 = .ok (.iconst 3, 1) := by decide +kernel
theorem dX1_init_39 : decode cX1_init 39 = .ok (.invokespecial 20, 3) := by decide +kernel
theorem dX1_init_42 : decode cX1_init 42 = .ok (.putfield 27, 3) := by decide +kernel
theorem dX1_init_45 : decode cX1_init 45 = .ok (.return_, 1) := by decide +kernel
theorem dX1_read_0 : decode cX1_read 0 = .ok (.aload_n 0, 1) := by decide +kernel
theorem dX1_read_1 : decode cX1_read 1 = .ok (.getfield 12, 3) := by decide +kernel
theorem dX1_read_4 : decode cX1_read 4 = .ok (.aload_n 1, 1) := by decide +kernel
theorem dX1_read_5 : decode cX1_read 5 = .ok (.invokevirtual 30, 3) := by decide +kernel
theorem dX1_read_8 : decode cX1_read 8 = .ok (.aload_n 0, 1) := by decide +kernel
theorem dX1_read_9 : decode cX1_read 9 = .ok (.aload_n 0, 1) := by decide +kernel
theorem dX1_read_10 : decode cX1_read 10 = .ok (.getfield 12, 3) := by decide +kernel
theorem dX1_read_13 : decode cX1_read 13 = .ok (.getfield 34, 3) := by decide +kernel
theorem dX1_read_16 : decode cX1_read 16 = .ok (.invokevirtual 37, 3) := by decide +kernel
theorem dX1_read_19 : decode cX1_read 19 = .ok (.aload_n 0, 1) := by decide +kernel
theorem dX1_read_20 : decode cX1_read 20 = .ok (.getfield 27, 3) := by decide +kernel
theorem dX1_read_23 : decode cX1_read 23 = .ok (.invokevirtual 41, 3) := by decide +kernel
theorem dX1_read_26 : decode cX1_read 26 = .ok (.aload_n 0, 1) := by decide +kernel
theorem dX1_read_27 : decode cX1_read 27 = .ok (.invokevirtual 44, 3) := by decide +kernel
theorem dX1_read_30 : decode cX1_read 30 = .ok (.istore_n 2, 1) := by decide +kernel
theorem dX1_read_31 : decode cX1_read 31 = .ok (.iconst 0, 1) := by decide +kernel
theorem dX1_read_32 : decode cX1_read 32 = .ok (.istore_n 3, 1) := by decide +kernel
theorem dX1_read_33 : decode cX1_read 33 = .ok (.iconst 0, 1) := by decide +kernel
theorem dX1_read_34 : decode cX1_read 34 = .ok (.istore 4, 2) := by decide +kernel
theorem dX1_read_36 : decode cX1_read 36 = .ok (.iload 4, 2) := by decide +kernel
theorem dX1_read_38 : decode cX1_read 38 = .ok (.bipush 7, 2) := by decide +kernel
theorem dX1_read_40 : decode cX1_read 40 = .ok (.if_icmp .ge 44, 3) := by decide +kernel
theorem dX1_read_43 : decode cX1_read 43 = .ok (.aload_n 0, 1) := by decide +kernel
theorem dX1_read_44 : decode cX1_read 44 = .ok (.iload 4, 2) := by decide +kernel
theorem dX1_read_46 : decode cX1_read 46 = .ok (.iload_n 3, 1) := by decide +kernel
theorem dX1_read_47 : decode cX1_read 47 = .ok (.iload_n 2, 1) := by decide +kernel
theorem dX1_read_48 : decode cX1_read 48 = .ok (.ifCond .eq 14, 3) := by decide +kernel
theorem dX1_read_51 : decode cX1_read 51 = .ok (.iload 4, 2) := by decide +kernel
theorem dX1_read_53 : decode cX1_read 53 = .ok (.bipush 6, 2) := by decide +kernel
theorem dX1_read_55 : decode cX1_read 55 = .ok (.if_icmp .ne 7, 3) := by decide +kernel
theorem dX1_read_58 : decode cX1_read 58 = .ok (.iconst 1, 1) := by decide +kernel
theorem dX1_read_59 : decode cX1_read 59 = .ok (.goto 4, 3) := by decide +kernel
theorem dX1_read_62 : decode cX1_read 62 = .ok (.iconst 0, 1) := by decide +kernel
theorem dX1_read_63 : decode cX1_read 63 = .ok (.invokevirtual 48, 3) := by decide +kernel
theorem dX1_read_66 : decode cX1_read 66 = .ok (.iload_n 3, 1) := by decide +kernel
theorem dX1_read_67 : decode cX1_read 67 = .ok (.aload_n 0, 1) := by decide +kernel
theorem dX1_read_68 : decode cX1_read 68 = .ok (.getfield 23, 3) := by decide +kernel
theorem dX1_read_71 : decode cX1_read 71 = .ok (.iload 4, 2) := by decide +kernel
theorem dX1_read_73 : decode cX1_read 73 = .ok (.invokestatic 52, 3) := by decide +kernel
theorem dX1_read_76 : decode cX1_read 76 = .ok (.iadd, 1) := by decide +kernel
theorem dX1_read_77 : decode cX1_read 77 = .ok (.istore_n 3, 1) := by decide +kernel
theorem dX1_read_78 : decode cX1_read 78 = .ok (.iinc 4 1, 3) := by decide +kernel
theorem dX1_read_81 : decode cX1_read 81 = .ok (.goto (-45), 3) := by decide +kernel
theorem dX1_read_84 : decode cX1_read 84 = .ok (.return_, 1) := by decide +kernel
theorem dX1_takeOffAutomaticBreaks_0 : decode cX1_takeOffAutomaticBreaks 0 = .ok (.aload_n 0, 1) := by decide +kernel
theorem dX1_takeOffAutomaticBreaks_1 : decode cX1_takeOffAutomaticBreaks 1 = .ok (.getfield 23, 3) := by decide +kernel
theorem dX1_takeOffAutomaticBreaks_4 : decode cX1_takeOffAutomaticBreaks 4 = .ok (.invokevirtual 41, 3) := by decide +kernel
theorem dX1_takeOffAutomaticBreaks_7 : decode cX1_takeOffAutomaticBreaks 7 = .ok (.iconst 0, 1) := by decide +kernel
theorem dX1_takeOffAutomaticBreaks_8 : decode cX1_takeOffAutomaticBreaks 8 = .ok (.istore_n 2, 1) := by decide +kernel
theorem dX1_takeOffAutomaticBreaks_9 : decode cX1_takeOffAutomaticBreaks 9 = .ok (.iload_n 2, 1) := by decide +kernel
theorem dX1_takeOffAutomaticBreaks_10 : decode cX1_takeOffAutomaticBreaks 10 = .ok (.aload_n 1, 1) := by decide +kernel
theorem dX1_takeOffAutomaticBreaks_11 : decode cX1_takeOffAutomaticBreaks 11 = .ok (.invokevirtual 56, 3) := by decide +kernel
theorem dX1_takeOffAutomaticBreaks_14 : decode cX1_takeOffAutomaticBreaks 14 = .ok (.if_icmp .ge 66, 3) := by decide +kernel
theorem dX1_takeOffAutomaticBreaks_17 : decode cX1_takeOffAutomaticBreaks 17 = .ok (.aload_n 1, 1) := by decide +kernel
theorem dX1_takeOffAutomaticBreaks_18 : decode cX1_takeOffAutomaticBreaks 18 = .ok (.iload_n 2, 1) := by decide +kernel
theorem dX1_takeOffAutomaticBreaks_19 : decode cX1_takeOffAutomaticBreaks 19 = .ok (.iconst 0, 1) := by decide +kernel
theorem dX1_takeOffAutomaticBreaks_20 : decode cX1_takeOffAutomaticBreaks 20 = .ok (.invokevirtual 60, 3) := by decide +kernel
theorem dX1_takeOffAutomaticBreaks_23 : decode cX1_takeOffAutomaticBreaks 23 = .ok (.istore_n 3, 1) := by decide +kernel
theorem dX1_takeOffAutomaticBreaks_24 : decode cX1_takeOffAutomaticBreaks 24 = .ok (.aload_n 1, 1) := by decide +kernel
theorem dX1_takeOffAutomaticBreaks_25 : decode cX1_takeOffAutomaticBreaks 25 = .ok (.iload_n 2, 1) := by decide +kernel
theorem dX1_takeOffAutomaticBreaks_26 : decode cX1_takeOffAutomaticBreaks 26 = .ok (.iconst 1, 1) := by decide +kernel
theorem dX1_takeOffAutomaticBreaks_27 : decode cX1_takeOffAutomaticBreaks 27 = .ok (.invokevirtual 60, 3) := by decide +kernel
theorem dX1_takeOffAutomaticBreaks_30 : decode cX1_takeOffAutomaticBreaks 30 = .ok (.istore 4, 2) := by decide +kernel
theorem dX1_takeOffAutomaticBreaks_32 : decode cX1_takeOffAutomaticBreaks 32 = .ok (.aload_n 0, 1) := by decide +kernel
theorem dX1_takeOffAutomaticBreaks_33 : decode cX1_takeOffAutomaticBreaks 33 = .ok (.getfield 23, 3) := by decide +kernel
theorem dX1_takeOffAutomaticBreaks_36 : decode cX1_takeOffAutomaticBreaks 36 = .ok (.iload_n 3, 1) := by decide +kernel
theorem dX1_takeOffAutomaticBreaks_37 : decode cX1_takeOffAutomaticBreaks 37 = .ok (.iload 4, 2) := by decide +kernel
theorem dX1_takeOffAutomaticBreaks_39 : decode cX1_takeOffAutomaticBreaks 39 = .ok (.iload_n 3, 1) := by decide +kernel
theorem dX1_takeOffAutomaticBreaks_40 : decode cX1_takeOffAutomaticBreaks 40 = .ok (.sipush 360, 3) := by decide +kernel
theorem dX1_takeOffAutomaticBreaks_43 : decode cX1_takeOffAutomaticBreaks 43 = .ok (.iadd, 1) := by decide +kernel
theorem dX1_takeOffAutomaticBreaks_44 : decode cX1_takeOffAutomaticBreaks 44 = .ok (.invokestatic 64, 3) := by decide +kernel
theorem dX1_takeOffAutomaticBreaks_47 : decode cX1_takeOffAutomaticBreaks 47 = .ok (.invokevirtual 69, 3) := by decide +kernel
theorem dX1_takeOffAutomaticBreaks_50 : decode cX1_takeOffAutomaticBreaks 50 = .ok (.iload 4, 2) := by decide +kernel
theorem dX1_takeOffAutomaticBreaks_52 : decode cX1_takeOffAutomaticBreaks 52 = .ok (.iload_n 3, 1) := by decide +kernel
theorem dX1_takeOffAutomaticBreaks_53 : decode cX1_takeOffAutomaticBreaks 53 = .ok (.sipush 390, 3) := by decide +kernel
theorem dX1_takeOffAutomaticBreaks_56 : decode cX1_takeOffAutomaticBreaks 56 = .ok (.iadd, 1) := by decide +kernel
theorem dX1_takeOffAutomaticBreaks_57 : decode cX1_takeOffAutomaticBreaks 57 = .ok (.if_icmp .le 17, 3) := by decide +kernel
theorem dX1_takeOffAutomaticBreaks_60 : decode cX1_takeOffAutomaticBreaks 60 = .ok (.aload_n 0, 1) := by decide +kernel
theorem dX1_takeOffAutomaticBreaks_61 : decode cX1_takeOffAutomaticBreaks 61 = .ok (.getfield 23, 3) := by decide +kernel
theorem dX1_takeOffAutomaticBreaks_64 : decode cX1_takeOffAutomaticBreaks 64 = .ok (.iload_n 3, 1) := by decide +kernel
theorem dX1_takeOffAutomaticBreaks_65 : decode cX1_takeOffAutomaticBreaks 65 = .ok (.sipush 390, 3) := by decide +kernel
theorem dX1_takeOffAutomaticBreaks_68 : decode cX1_takeOffAutomaticBreaks 68 = .ok (.iadd, 1) := by decide +kernel
theorem dX1_takeOffAutomaticBreaks_69 : decode cX1_takeOffAutomaticBreaks 69 = .ok (.iload 4, 2) := by decide +kernel
theorem dX1_takeOffAutomaticBreaks_71 : decode cX1_takeOffAutomaticBreaks 71 = .ok (.invokevirtual 69, 3) := by decide +kernel
theorem dX1_takeOffAutomaticBreaks_74 : decode cX1_takeOffAutomaticBreaks 74 = .ok (.iinc 2 1, 3) := by decide +kernel
theorem dX1_takeOffAutomaticBreaks_77 : decode cX1_takeOffAutomaticBreaks 77 = .ok (.goto (-68), 3) := by decide +kernel
theorem dX1_takeOffAutomaticBreaks_80 : decode cX1_takeOffAutomaticBreaks 80 = .ok (.return_, 1) := by decide +kernel
theorem dX1_isFull_0 : decode cX1_isFull 0 = .ok (.iconst 1, 1) := by decide +kernel
theorem dX1_isFull_1 : decode cX1_isFull 1 = .ok (.istore_n 1, 1) := by decide +kernel
theorem dX1_isFull_2 : decode cX1_isFull 2 = .ok (.iconst 0, 1) := by decide +kernel
theorem dX1_isFull_3 : decode cX1_isFull 3 = .ok (.istore_n 2, 1) := by decide +kernel
theorem dX1_isFull_4 : decode cX1_isFull 4 = .ok (.iload_n 2, 1) := by decide +kernel
theorem dX1_isFull_5 : decode cX1_isFull 5 = .ok (.bipush 6, 2) := by decide +kernel
theorem dX1_isFull_7 : decode cX1_isFull 7 = .ok (.if_icmp .ge 30, 3) := by decide +kernel
theorem dX1_isFull_10 : decode cX1_isFull 10 = .ok (.iload_n 1, 1) := by decide +kernel
theorem dX1_isFull_11 : decode cX1_isFull 11 = .ok (.ifCond .eq 18, 3) := by decide +kernel
theorem dX1_isFull_14 : decode cX1_isFull 14 = .ok (.aload_n 0, 1) := by decide +kernel
theorem dX1_isFull_15 : decode cX1_isFull 15 = .ok (.getfield 23, 3) := by decide +kernel
theorem dX1_isFull_18 : decode cX1_isFull 18 = .ok (.iload_n 2, 1) := by decide +kernel
theorem dX1_isFull_19 : decode cX1_isFull 19 = .ok (.invokestatic 52, 3) := by decide +kernel
theorem dX1_isFull_22 : decode cX1_isFull 22 = .ok (.ifCond .le 7, 3) := by decide +kernel
theorem dX1_isFull_25 : decode cX1_isFull 25 = .ok (.iconst 1, 1) := by decide +kernel
theorem dX1_isFull_26 : decode cX1_isFull 26 = .ok (.goto 4, 3) := by decide +kernel
theorem dX1_isFull_29 : decode cX1_isFull 29 = .ok (.iconst 0, 1) := by decide +kernel
theorem dX1_isFull_30 : decode cX1_isFull 30 = .ok (.istore_n 1, 1) := by decide +kernel
theorem dX1_isFull_31 : decode cX1_isFull 31 = .ok (.iinc 2 1, 3) := by decide +kernel
theorem dX1_isFull_34 : decode cX1_isFull 34 = .ok (.goto (-30), 3) := by decide +kernel
theorem dX1_isFull_37 : decode cX1_isFull 37 = .ok (.iload_n 1, 1) := by decide +kernel
theorem dX1_isFull_38 : decode cX1_isFull 38 = .ok (.ireturn, 1) := by decide +kernel
theorem dX1_addPartsOfDay_0 : decode cX1_addPartsOfDay 0 = .ok (.iconst 0, 1) := by decide +kernel
theorem dX1_addPartsOfDay_1 : decode cX1_addPartsOfDay 1 = .ok (.istore 4, 2) := by decide +kernel
theorem dX1_addPartsOfDay_3 : decode cX1_addPartsOfDay 3 = .ok (.iconst 0, 1) := by decide +kernel
theorem dX1_addPartsOfDay_4 : decode cX1_addPartsOfDay 4 = .ok (.istore 5, 2) := by decide +kernel
theorem dX1_addPartsOfDay_6 : decode cX1_addPartsOfDay 6 = .ok (.iload 5, 2) := by decide +kernel
theorem dX1_addPartsOfDay_8 : decode cX1_addPartsOfDay 8 = .ok (.aload_n 0, 1) := by decide +kernel
theorem dX1_addPartsOfDay_9 : decode cX1_addPartsOfDay 9 = .ok (.getfield 23, 3) := by decide +kernel
theorem dX1_addPartsOfDay_12 : decode cX1_addPartsOfDay 12 = .ok (.invokevirtual 56, 3) := by decide +kernel
theorem dX1_addPartsOfDay_15 : decode cX1_addPartsOfDay 15 = .ok (.if_icmp .ge 83, 3) := by decide +kernel
theorem dX1_addPartsOfDay_18 : decode cX1_addPartsOfDay 18 = .ok (.aload_n 0, 1) := by decide +kernel
theorem dX1_addPartsOfDay_19 : decode cX1_addPartsOfDay 19 = .ok (.getfield 23, 3) := by decide +kernel
theorem dX1_addPartsOfDay_22 : decode cX1_addPartsOfDay 22 = .ok (.iload 5, 2) := by decide +kernel
theorem dX1_addPartsOfDay_24 : decode cX1_addPartsOfDay 24 = .ok (.iconst 0, 1) := by decide +kernel
theorem dX1_addPartsOfDay_25 : decode cX1_addPartsOfDay 25 = .ok (.invokevirtual 60, 3) := by decide +kernel
theorem dX1_addPartsOfDay_28 : decode cX1_addPartsOfDay 28 = .ok (.iload_n 1, 1) := by decide +kernel
theorem dX1_addPartsOfDay_29 : decode cX1_addPartsOfDay 29 = .ok (.sipush 1440, 3) := by decide +kernel
theorem dX1_addPartsOfDay_32 : decode cX1_addPartsOfDay 32 = .ok (.imul, 1) := by decide +kernel
theorem dX1_addPartsOfDay_33 : decode cX1_addPartsOfDay 33 = .ok (.invokestatic 72, 3) := by decide +kernel
theorem dX1_addPartsOfDay_36 : decode cX1_addPartsOfDay 36 = .ok (.istore 6, 2) := by decide +kernel
theorem dX1_addPartsOfDay_38 : decode cX1_addPartsOfDay 38 = .ok (.aload_n 0, 1) := by decide +kernel
theorem dX1_addPartsOfDay_39 : decode cX1_addPartsOfDay 39 = .ok (.getfield 23, 3) := by decide +kernel
theorem dX1_addPartsOfDay_42 : decode cX1_addPartsOfDay 42 = .ok (.iload 5, 2) := by decide +kernel
theorem dX1_addPartsOfDay_44 : decode cX1_addPartsOfDay 44 = .ok (.iconst 1, 1) := by decide +kernel
theorem dX1_addPartsOfDay_45 : decode cX1_addPartsOfDay 45 = .ok (.invokevirtual 60, 3) := by decide +kernel
theorem dX1_addPartsOfDay_48 : decode cX1_addPartsOfDay 48 = .ok (.iload_n 1, 1) := by decide +kernel
theorem dX1_addPartsOfDay_49 : decode cX1_addPartsOfDay 49 = .ok (.iconst 1, 1) := by decide +kernel
theorem dX1_addPartsOfDay_50 : decode cX1_addPartsOfDay 50 = .ok (.iadd, 1) := by decide +kernel
theorem dX1_addPartsOfDay_51 : decode cX1_addPartsOfDay 51 = .ok (.sipush 1440, 3) := by decide +kernel
theorem dX1_addPartsOfDay_54 : decode cX1_addPartsOfDay 54 = .ok (.imul, 1) := by decide +kernel
theorem dX1_addPartsOfDay_55 : decode cX1_addPartsOfDay 55 = .ok (.invokestatic 64, 3) := by decide +kernel
theorem dX1_addPartsOfDay_58 : decode cX1_addPartsOfDay 58 = .ok (.istore 7, 2) := by decide +kernel
theorem dX1_addPartsOfDay_60 : decode cX1_addPartsOfDay 60 = .ok (.iload 6, 2) := by decide +kernel
theorem dX1_addPartsOfDay_62 : decode cX1_addPartsOfDay 62 = .ok (.iload 7, 2) := by decide +kernel
theorem dX1_addPartsOfDay_64 : decode cX1_addPartsOfDay 64 = .ok (.if_icmp .ge 28, 3) := by decide +kernel
theorem dX1_addPartsOfDay_67 : decode cX1_addPartsOfDay 67 = .ok (.aload_n 0, 1) := by decide +kernel
theorem dX1_addPartsOfDay_68 : decode cX1_addPartsOfDay 68 = .ok (.iload 6, 2) := by decide +kernel
theorem dX1_addPartsOfDay_70 : decode cX1_addPartsOfDay 70 = .ok (.iload 7, 2) := by decide +kernel
theorem dX1_addPartsOfDay_72 : decode cX1_addPartsOfDay 72 = .ok (.iload 4, 2) := by decide +kernel
theorem dX1_addPartsOfDay_74 : decode cX1_addPartsOfDay 74 = .ok (.iload_n 2, 1) := by decide +kernel
theorem dX1_addPartsOfDay_75 : decode cX1_addPartsOfDay 75 = .ok (.iload 4, 2) := by decide +kernel
theorem dX1_addPartsOfDay_77 : decode cX1_addPartsOfDay 77 = .ok (.iadd, 1) := by decide +kernel
theorem dX1_addPartsOfDay_78 : decode cX1_addPartsOfDay 78 = .ok (.iload_n 3, 1) := by decide +kernel
theorem dX1_addPartsOfDay_79 : decode cX1_addPartsOfDay 79 = .ok (.invokevirtual 75, 3) := by decide +kernel
theorem dX1_addPartsOfDay_82 : decode cX1_addPartsOfDay 82 = .ok (.iload 4, 2) := by decide +kernel
theorem dX1_addPartsOfDay_84 : decode cX1_addPartsOfDay 84 = .ok (.iload 7, 2) := by decide +kernel
theorem dX1_addPartsOfDay_86 : decode cX1_addPartsOfDay 86 = .ok (.iload 6, 2) := by decide +kernel
theorem dX1_addPartsOfDay_88 : decode cX1_addPartsOfDay 88 = .ok (.isub, 1) := by decide +kernel
theorem dX1_addPartsOfDay_89 : decode cX1_addPartsOfDay 89 = .ok (.iadd, 1) := by decide +kernel
theorem dX1_addPartsOfDay_90 : decode cX1_addPartsOfDay 90 = .ok (.istore 4, 2) := by decide +kernel
theorem dX1_addPartsOfDay_92 : decode cX1_addPartsOfDay 92 = .ok (.iinc 5 1, 3) := by decide +kernel
theorem dX1_addPartsOfDay_95 : decode cX1_addPartsOfDay 95 = .ok (.goto (-89), 3) := by decide +kernel
theorem dX1_addPartsOfDay_98 : decode cX1_addPartsOfDay 98 = .ok (.return_, 1) := by decide +kernel
theorem dX1_addParts_0 : decode cX1_addParts 0 = .ok (.iload_n 1, 1) := by decide +kernel
theorem dX1_addParts_1 : decode cX1_addParts 1 = .ok (.istore 6, 2) := by decide +kernel
theorem dX1_addParts_3 : decode cX1_addParts 3 = .ok (.iconst 0, 1) := by decide +kernel
theorem dX1_addParts_4 : decode cX1_addParts 4 = .ok (.istore 7, 2) := by decide +kernel
theorem dX1_addParts_6 : decode cX1_addParts 6 = .ok (.iload 7, 2) := by decide +kernel
theorem dX1_addParts_8 : decode cX1_addParts 8 = .ok (.sipush 1440, 3) := by decide +kernel
theorem dX1_addParts_11 : decode cX1_addParts 11 = .ok (.if_icmp .ge 97, 3) := by decide +kernel
theorem dX1_addParts_14 : decode cX1_addParts 14 = .ok (.iload 6, 2) := by decide +kernel
theorem dX1_addParts_16 : decode cX1_addParts 16 = .ok (.iload_n 2, 1) := by decide +kernel
theorem dX1_addParts_17 : decode cX1_addParts 17 = .ok (.if_icmp .ge 91, 3) := by decide +kernel
theorem dX1_addParts_20 : decode cX1_addParts 20 = .ok (.iload_n 3, 1) := by decide +kernel
theorem dX1_addParts_21 : decode cX1_addParts 21 = .ok (.iload 6, 2) := by decide +kernel
theorem dX1_addParts_23 : decode cX1_addParts 23 = .ok (.iadd, 1) := by decide +kernel
theorem dX1_addParts_24 : decode cX1_addParts 24 = .ok (.iload_n 1, 1) := by decide +kernel
theorem dX1_addParts_25 : decode cX1_addParts 25 = .ok (.isub, 1) := by decide +kernel
theorem dX1_addParts_26 : decode cX1_addParts 26 = .ok (.istore 8, 2) := by decide +kernel
theorem dX1_addParts_28 : decode cX1_addParts 28 = .ok (.iload 4, 2) := by decide +kernel
theorem dX1_addParts_30 : decode cX1_addParts 30 = .ok (.iload 6, 2) := by decide +kernel
theorem dX1_addParts_32 : decode cX1_addParts 32 = .ok (.iadd, 1) := by decide +kernel
theorem dX1_addParts_33 : decode cX1_addParts 33 = .ok (.iload_n 1, 1) := by decide +kernel
theorem dX1_addParts_34 : decode cX1_addParts 34 = .ok (.isub, 1) := by decide +kernel
theorem dX1_addParts_35 : decode cX1_addParts 35 = .ok (.istore 9, 2) := by decide +kernel
theorem dX1_addParts_37 : decode cX1_addParts 37 = .ok (.iload_n 2, 1) := by decide +kernel
theorem dX1_addParts_38 : decode cX1_addParts 38 = .ok (.iload 6, 2) := by decide +kernel
theorem dX1_addParts_40 : decode cX1_addParts 40 = .ok (.isub, 1) := by decide +kernel
theorem dX1_addParts_41 : decode cX1_addParts 41 = .ok (.iload 8, 2) := by decide +kernel
theorem dX1_addParts_43 : decode cX1_addParts 43 = .ok (.iload 9, 2) := by decide +kernel
theorem dX1_addParts_45 : decode cX1_addParts 45 = .ok (.invokestatic 79, 3) := by decide +kernel
theorem dX1_addParts_48 : decode cX1_addParts 48 = .ok (.invokestatic 64, 3) := by decide +kernel
theorem dX1_addParts_51 : decode cX1_addParts 51 = .ok (.istore 10, 2) := by decide +kernel
theorem dX1_addParts_53 : decode cX1_addParts 53 = .ok (.aload_n 0, 1) := by decide +kernel
theorem dX1_addParts_54 : decode cX1_addParts 54 = .ok (.getfield 27, 3) := by decide +kernel
theorem dX1_addParts_57 : decode cX1_addParts 57 = .ok (.invokevirtual 56, 3) := by decide +kernel
theorem dX1_addParts_60 : decode cX1_addParts 60 = .ok (.istore 11, 2) := by decide +kernel
theorem dX1_addParts_62 : decode cX1_addParts 62 = .ok (.aload_n 0, 1) := by decide +kernel
theorem dX1_addParts_63 : decode cX1_addParts 63 = .ok (.getfield 27, 3) := by decide +kernel
theorem dX1_addParts_66 : decode cX1_addParts 66 = .ok (.iload 6, 2) := by decide +kernel
theorem dX1_addParts_68 : decode cX1_addParts 68 = .ok (.iload 6, 2) := by decide +kernel
theorem dX1_addParts_70 : decode cX1_addParts 70 = .ok (.iload 10, 2) := by decide +kernel
theorem dX1_addParts_72 : decode cX1_addParts 72 = .ok (.iadd, 1) := by decide +kernel
theorem dX1_addParts_73 : decode cX1_addParts 73 = .ok (.invokevirtual 69, 3) := by decide +kernel
theorem dX1_addParts_76 : decode cX1_addParts 76 = .ok (.aload_n 0, 1) := by decide +kernel
theorem dX1_addParts_77 : decode cX1_addParts 77 = .ok (.getfield 27, 3) := by decide +kernel
theorem dX1_addParts_80 : decode cX1_addParts 80 = .ok (.iload 11, 2) := by decide +kernel
theorem dX1_addParts_82 : decode cX1_addParts 82 = .ok (.iconst 2, 1) := by decide +kernel
theorem dX1_addParts_83 : decode cX1_addParts 83 = .ok (.iload 8, 2) := by decide +kernel
theorem dX1_addParts_85 : decode cX1_addParts 85 = .ok (.iload 9, 2) := by decide +kernel
theorem dX1_addParts_87 : decode cX1_addParts 87 = .ok (.iload 5, 2) := by decide +kernel
theorem dX1_addParts_89 : decode cX1_addParts 89 = .ok (.invokestatic 82, 3) := by decide +kernel
theorem dX1_addParts_92 : decode cX1_addParts 92 = .ok (.invokevirtual 86, 3) := by decide +kernel
theorem dX1_addParts_95 : decode cX1_addParts 95 = .ok (.iload 6, 2) := by decide +kernel
theorem dX1_addParts_97 : decode cX1_addParts 97 = .ok (.iload 10, 2) := by decide +kernel
theorem dX1_addParts_99 : decode cX1_addParts 99 = .ok (.iadd, 1) := by decide +kernel
theorem dX1_addParts_100 : decode cX1_addParts 100 = .ok (.istore 6, 2) := by decide +kernel
theorem dX1_addParts_102 : decode cX1_addParts 102 = .ok (.iinc 7 1, 3) := by decide +kernel
theorem dX1_addParts_105 : decode cX1_addParts 105 = .ok (.goto (-99), 3) := by decide +kernel
theorem dX1_addParts_108 : decode cX1_addParts 108 = .ok (.return_, 1) := by decide +kernel
theorem dX1_untilLimit_0 : decode cX1_untilLimit 0 = .ok (.sipush 10080, 3) := by decide +kernel
theorem dX1_untilLimit_3 : decode cX1_untilLimit 3 = .ok (.istore_n 2, 1) := by decide +kernel
theorem dX1_untilLimit_4 : decode cX1_untilLimit 4 = .ok (.iload_n 0, 1) := by decide +kernel
theorem dX1_untilLimit_5 : decode cX1_untilLimit 5 = .ok (.sipush 480, 3) := by decide +kernel
theorem dX1_untilLimit_8 : decode cX1_untilLimit 8 = .ok (.if_icmp .ge 12, 3) := by decide +kernel
theorem dX1_untilLimit_11 : decode cX1_untilLimit 11 = .ok (.sipush 480, 3) := by decide +kernel
theorem dX1_untilLimit_14 : decode cX1_untilLimit 14 = .ok (.iload_n 0, 1) := by decide +kernel
theorem dX1_untilLimit_15 : decode cX1_untilLimit 15 = .ok (.isub, 1) := by decide +kernel
theorem dX1_untilLimit_16 : decode cX1_untilLimit 16 = .ok (.istore_n 2, 1) := by decide +kernel
theorem dX1_untilLimit_17 : decode cX1_untilLimit 17 = .ok (.goto 16, 3) := by decide +kernel
theorem dX1_untilLimit_20 : decode cX1_untilLimit 20 = .ok (.iload_n 0, 1) := by decide +kernel
theorem dX1_untilLimit_21 : decode cX1_untilLimit 21 = .ok (.sipush 720, 3) := by decide +kernel
theorem dX1_untilLimit_24 : decode cX1_untilLimit 24 = .ok (.if_icmp .ge 9, 3) := by decide +kernel
theorem dX1_untilLimit_27 : decode cX1_untilLimit 27 = .ok (.sipush 720, 3) := by decide +kernel
theorem dX1_untilLimit_30 : decode cX1_untilLimit 30 = .ok (.iload_n 0, 1) := by decide +kernel
theorem dX1_untilLimit_31 : decode cX1_untilLimit 31 = .ok (.isub, 1) := by decide +kernel
theorem dX1_untilLimit_32 : decode cX1_untilLimit 32 = .ok (.istore_n 2, 1) := by decide +kernel
theorem dX1_untilLimit_33 : decode cX1_untilLimit 33 = .ok (.iload_n 1, 1) := by decide +kernel
theorem dX1_untilLimit_34 : decode cX1_untilLimit 34 = .ok (.sipush 2400, 3) := by decide +kernel
theorem dX1_untilLimit_37 : decode cX1_untilLimit 37 = .ok (.if_icmp .ge 15, 3) := by decide +kernel
theorem dX1_untilLimit_40 : decode cX1_untilLimit 40 = .ok (.iload_n 2, 1) := by decide +kernel
theorem dX1_untilLimit_41 : decode cX1_untilLimit 41 = .ok (.sipush 2400, 3) := by decide +kernel
theorem dX1_untilLimit_44 : decode cX1_untilLimit 44 = .ok (.iload_n 1, 1) := by decide +kernel
theorem dX1_untilLimit_45 : decode cX1_untilLimit 45 = .ok (.isub, 1) := by decide +kernel
theorem dX1_untilLimit_46 : decode cX1_untilLimit 46 = .ok (.invokestatic 64, 3) := by decide +kernel
theorem dX1_untilLimit_49 : decode cX1_untilLimit 49 = .ok (.goto 4, 3) := by decide +kernel
theorem dX1_untilLimit_52 : decode cX1_untilLimit 52 = .ok (.iload_n 2, 1) := by decide +kernel
theorem dX1_untilLimit_53 : decode cX1_untilLimit 53 = .ok (.ireturn, 1) := by decide +kernel
theorem dX1_categoryFor_0 : decode cX1_categoryFor 0 = .ok (.iload_n 0, 1) := by decide +kernel
theorem dX1_categoryFor_1 : decode cX1_categoryFor 1 = .ok (.sipush 720, 3) := by decide +kernel
theorem dX1_categoryFor_4 : decode cX1_categoryFor 4 = .ok (.if_icmp .ge 14, 3) := by decide +kernel
theorem dX1_categoryFor_7 : decode cX1_categoryFor 7 = .ok (.iload_n 2, 1) := by decide +kernel
theorem dX1_categoryFor_8 : decode cX1_categoryFor 8 = .ok (.ifCond .eq 12, 3) := by decide +kernel
theorem dX1_categoryFor_11 : decode cX1_categoryFor 11 = .ok (.iload_n 0, 1) := by decide +kernel
theorem dX1_categoryFor_12 : decode cX1_categoryFor 12 = .ok (.sipush 480, 3) := by decide +kernel
theorem dX1_categoryFor_15 : decode cX1_categoryFor 15 = .ok (.if_icmp .lt 5, 3) := by decide +kernel
theorem dX1_categoryFor_18 : decode cX1_categoryFor 18 = .ok (.iconst 2, 1) := by decide +kernel
theorem dX1_categoryFor_19 : decode cX1_categoryFor 19 = .ok (.ireturn, 1) := by decide +kernel
theorem dX1_categoryFor_20 : decode cX1_categoryFor 20 = .ok (.iload_n 0, 1) := by decide +kernel
theorem dX1_categoryFor_21 : decode cX1_categoryFor 21 = .ok (.sipush 480, 3) := by decide +kernel
theorem dX1_categoryFor_24 : decode cX1_categoryFor 24 = .ok (.if_icmp .ge 14, 3) := by decide +kernel
theorem dX1_categoryFor_27 : decode cX1_categoryFor 27 = .ok (.iload_n 1, 1) := by decide +kernel
theorem dX1_categoryFor_28 : decode cX1_categoryFor 28 = .ok (.sipush 2400, 3) := by decide +kernel
theorem dX1_categoryFor_31 : decode cX1_categoryFor 31 = .ok (.if_icmp .ge 7, 3) := by decide +kernel
theorem dX1_categoryFor_34 : decode cX1_categoryFor 34 = .ok (.iload_n 2, 1) := by decide +kernel
theorem dX1_categoryFor_35 : decode cX1_categoryFor 35 = .ok (.ifCond .eq 7, 3) := by decide +kernel
theorem dX1_categoryFor_38 : decode cX1_categoryFor 38 = .ok (.iconst 1, 1) := by decide +kernel
theorem dX1_categoryFor_39 : decode cX1_categoryFor 39 = .ok (.goto 4, 3) := by decide +kernel
theorem dX1_categoryFor_42 : decode cX1_categoryFor 42 = .ok (.iconst 0, 1) := by decide +kernel
theorem dX1_categoryFor_43 : decode cX1_categoryFor 43 = .ok (.ireturn, 1) := by decide +kernel
theorem dX1_categoryAt_0 : decode cX1_categoryAt 0 = .ok (.iconst (-1), 1) := by decide +kernel
theorem dX1_categoryAt_1 : decode cX1_categoryAt 1 = .ok (.istore_n 2, 1) := by decide +kernel
theorem dX1_categoryAt_2 : decode cX1_categoryAt 2 = .ok (.iconst 0, 1) := by decide +kernel
theorem dX1_categoryAt_3 : decode cX1_categoryAt 3 = .ok (.istore_n 3, 1) := by decide +kernel
theorem dX1_categoryAt_4 : decode cX1_categoryAt 4 = .ok (.iload_n 3, 1) := by decide +kernel
theorem dX1_categoryAt_5 : decode cX1_categoryAt 5 = .ok (.aload_n 0, 1) := by decide +kernel
theorem dX1_categoryAt_6 : decode cX1_categoryAt 6 = .ok (.getfield 27, 3) := by decide +kernel
theorem dX1_categoryAt_9 : decode cX1_categoryAt 9 = .ok (.invokevirtual 56, 3) := by decide +kernel
theorem dX1_categoryAt_12 : decode cX1_categoryAt 12 = .ok (.if_icmp .ge 45, 3) := by decide +kernel
theorem dX1_categoryAt_15 : decode cX1_categoryAt 15 = .ok (.aload_n 0, 1) := by decide +kernel
theorem dX1_categoryAt_16 : decode cX1_categoryAt 16 = .ok (.getfield 27, 3) := by decide +kernel
theorem dX1_categoryAt_19 : decode cX1_categoryAt 19 = .ok (.iload_n 3, 1) := by decide +kernel
theorem dX1_categoryAt_20 : decode cX1_categoryAt 20 = .ok (.iconst 0, 1) := by decide +kernel
theorem dX1_categoryAt_21 : decode cX1_categoryAt 21 = .ok (.invokevirtual 60, 3) := by decide +kernel
theorem dX1_categoryAt_24 : decode cX1_categoryAt 24 = .ok (.iload_n 1, 1) := by decide +kernel
theorem dX1_categoryAt_25 : decode cX1_categoryAt 25 = .ok (.if_icmp .gt 26, 3) := by decide +kernel
theorem dX1_categoryAt_28 : decode cX1_categoryAt 28 = .ok (.iload_n 1, 1) := by decide +kernel
theorem dX1_categoryAt_29 : decode cX1_categoryAt 29 = .ok (.aload_n 0, 1) := by decide +kernel
theorem dX1_categoryAt_30 : decode cX1_categoryAt 30 = .ok (.getfield 27, 3) := by decide +kernel
theorem dX1_categoryAt_33 : decode cX1_categoryAt 33 = .ok (.iload_n 3, 1) := by decide +kernel
theorem dX1_categoryAt_34 : decode cX1_categoryAt 34 = .ok (.iconst 1, 1) := by decide +kernel
theorem dX1_categoryAt_35 : decode cX1_categoryAt 35 = .ok (.invokevirtual 60, 3) := by decide +kernel
theorem dX1_categoryAt_38 : decode cX1_categoryAt 38 = .ok (.if_icmp .ge 13, 3) := by decide +kernel
theorem dX1_categoryAt_41 : decode cX1_categoryAt 41 = .ok (.aload_n 0, 1) := by decide +kernel
theorem dX1_categoryAt_42 : decode cX1_categoryAt 42 = .ok (.getfield 27, 3) := by decide +kernel
theorem dX1_categoryAt_45 : decode cX1_categoryAt 45 = .ok (.iload_n 3, 1) := by decide +kernel
theorem dX1_categoryAt_46 : decode cX1_categoryAt 46 = .ok (.iconst 2, 1) := by decide +kernel
theorem dX1_categoryAt_47 : decode cX1_categoryAt 47 = .ok (.invokevirtual 60, 3) := by decide +kernel
theorem dX1_categoryAt_50 : decode cX1_categoryAt 50 = .ok (.istore_n 2, 1) := by decide +kernel
theorem dX1_categoryAt_51 : decode cX1_categoryAt 51 = .ok (.iinc 3 1, 3) := by decide +kernel
theorem dX1_categoryAt_54 : decode cX1_categoryAt 54 = .ok (.goto (-50), 3) := by decide +kernel
theorem dX1_categoryAt_57 : decode cX1_categoryAt 57 = .ok (.iload_n 2, 1) := by decide +kernel
theorem dX1_categoryAt_58 : decode cX1_categoryAt 58 = .ok (.ireturn, 1) := by decide +kernel
theorem dX1_minutesOf_0 : decode cX1_minutesOf 0 = .ok (.iconst 0, 1) := by decide +kernel
theorem dX1_minutesOf_1 : decode cX1_minutesOf 1 = .ok (.istore_n 3, 1) := by decide +kernel
theorem dX1_minutesOf_2 : decode cX1_minutesOf 2 = .ok (.iconst 0, 1) := by decide +kernel
theorem dX1_minutesOf_3 : decode cX1_minutesOf 3 = .ok (.istore 4, 2) := by decide +kernel
theorem dX1_minutesOf_5 : decode cX1_minutesOf 5 = .ok (.iload 4, 2) := by decide +kernel
theorem dX1_minutesOf_7 : decode cX1_minutesOf 7 = .ok (.aload_n 0, 1) := by decide +kernel
theorem dX1_minutesOf_8 : decode cX1_minutesOf 8 = .ok (.getfield 27, 3) := by decide +kernel
theorem dX1_minutesOf_11 : decode cX1_minutesOf 11 = .ok (.invokevirtual 56, 3) := by decide +kernel
theorem dX1_minutesOf_14 : decode cX1_minutesOf 14 = .ok (.if_icmp .ge 65, 3) := by decide +kernel
theorem dX1_minutesOf_17 : decode cX1_minutesOf 17 = .ok (.aload_n 0, 1) := by decide +kernel
theorem dX1_minutesOf_18 : decode cX1_minutesOf 18 = .ok (.getfield 27, 3) := by decide +kernel
theorem dX1_minutesOf_21 : decode cX1_minutesOf 21 = .ok (.iload 4, 2) := by decide +kernel
theorem dX1_minutesOf_23 : decode cX1_minutesOf 23 = .ok (.iconst 2, 1) := by decide +kernel
theorem dX1_minutesOf_24 : decode cX1_minutesOf 24 = .ok (.invokevirtual 60, 3) := by decide +kernel
theorem dX1_minutesOf_27 : decode cX1_minutesOf 27 = .ok (.iload_n 2, 1) := by decide +kernel
theorem dX1_minutesOf_28 : decode cX1_minutesOf 28 = .ok (.if_icmp .ne 45, 3) := by decide +kernel
theorem dX1_minutesOf_31 : decode cX1_minutesOf 31 = .ok (.aload_n 0, 1) := by decide +kernel
theorem dX1_minutesOf_32 : decode cX1_minutesOf 32 = .ok (.getfield 27, 3) := by decide +kernel
theorem dX1_minutesOf_35 : decode cX1_minutesOf 35 = .ok (.iload 4, 2) := by decide +kernel
theorem dX1_minutesOf_37 : decode cX1_minutesOf 37 = .ok (.iconst 0, 1) := by decide +kernel
theorem dX1_minutesOf_38 : decode cX1_minutesOf 38 = .ok (.invokevirtual 60, 3) := by decide +kernel
theorem dX1_minutesOf_41 : decode cX1_minutesOf 41 = .ok (.sipush 1440, 3) := by decide +kernel
theorem dX1_minutesOf_44 : decode cX1_minutesOf 44 = .ok (.idiv, 1) := by decide +kernel
theorem dX1_minutesOf_45 : decode cX1_minutesOf 45 = .ok (.iload_n 1, 1) := by decide +kernel
theorem dX1_minutesOf_46 : decode cX1_minutesOf 46 = .ok (.if_icmp .ne 27, 3) := by decide +kernel
theorem dX1_minutesOf_49 : decode cX1_minutesOf 49 = .ok (.iload_n 3, 1) := by decide +kernel
theorem dX1_minutesOf_50 : decode cX1_minutesOf 50 = .ok (.aload_n 0, 1) := by decide +kernel
theorem dX1_minutesOf_51 : decode cX1_minutesOf 51 = .ok (.getfield 27, 3) := by decide +kernel
theorem dX1_minutesOf_54 : decode cX1_minutesOf 54 = .ok (.iload 4, 2) := by decide +kernel
theorem dX1_minutesOf_56 : decode cX1_minutesOf 56 = .ok (.iconst 1, 1) := by decide +kernel
theorem dX1_minutesOf_57 : decode cX1_minutesOf 57 = .ok (.invokevirtual 60, 3) := by decide +kernel
theorem dX1_minutesOf_60 : decode cX1_minutesOf 60 = .ok (.aload_n 0, 1) := by decide +kernel
theorem dX1_minutesOf_61 : decode cX1_minutesOf 61 = .ok (.getfield 27, 3) := by decide +kernel
theorem dX1_minutesOf_64 : decode cX1_minutesOf 64 = .ok (.iload 4, 2) := by decide +kernel
theorem dX1_minutesOf_66 : decode cX1_minutesOf 66 = .ok (.iconst 0, 1) := by decide +kernel
theorem dX1_minutesOf_67 : decode cX1_minutesOf 67 = .ok (.invokevirtual 60, 3) := by decide +kernel
theorem dX1_minutesOf_70 : decode cX1_minutesOf 70 = .ok (.isub, 1) := by decide +kernel
theorem dX1_minutesOf_71 : decode cX1_minutesOf 71 = .ok (.iadd, 1) := by decide +kernel
theorem dX1_minutesOf_72 : decode cX1_minutesOf 72 = .ok (.istore_n 3, 1) := by decide +kernel
theorem dX1_minutesOf_73 : decode cX1_minutesOf 73 = .ok (.iinc 4 1, 3) := by decide +kernel
theorem dX1_minutesOf_76 : decode cX1_minutesOf 76 = .ok (.goto (-71), 3) := by decide +kernel
theorem dX1_minutesOf_79 : decode cX1_minutesOf 79 = .ok (.iload_n 3, 1) := by decide +kernel
theorem dX1_minutesOf_80 : decode cX1_minutesOf 80 = .ok (.ireturn, 1) := by decide +kernel
theorem dX1_quartersOf_0 : decode cX1_quartersOf 0 = .ok (.aload_n 0, 1) := by decide +kernel
theorem dX1_quartersOf_1 : decode cX1_quartersOf 1 = .ok (.iload_n 1, 1) := by decide +kernel
theorem dX1_quartersOf_2 : decode cX1_quartersOf 2 = .ok (.iload_n 2, 1) := by decide +kernel
theorem dX1_quartersOf_3 : decode cX1_quartersOf 3 = .ok (.invokevirtual 90, 3) := by decide +kernel
theorem dX1_quartersOf_6 : decode cX1_quartersOf 6 = .ok (.istore_n 3, 1) := by decide +kernel
theorem dX1_quartersOf_7 : decode cX1_quartersOf 7 = .ok (.aload_n 0, 1) := by decide +kernel
theorem dX1_quartersOf_8 : decode cX1_quartersOf 8 = .ok (.iload_n 2, 1) := by decide +kernel
theorem dX1_quartersOf_9 : decode cX1_quartersOf 9 = .ok (.invokevirtual 93, 3) := by decide +kernel
theorem dX1_quartersOf_12 : decode cX1_quartersOf 12 = .ok (.istore 4, 2) := by decide +kernel
theorem dX1_quartersOf_14 : decode cX1_quartersOf 14 = .ok (.iconst 0, 1) := by decide +kernel
theorem dX1_quartersOf_15 : decode cX1_quartersOf 15 = .ok (.istore 5, 2) := by decide +kernel
theorem dX1_quartersOf_17 : decode cX1_quartersOf 17 = .ok (.iconst 0, 1) := by decide +kernel
theorem dX1_quartersOf_18 : decode cX1_quartersOf 18 = .ok (.istore 6, 2) := by decide +kernel
theorem dX1_quartersOf_20 : decode cX1_quartersOf 20 = .ok (.iload 6, 2) := by decide +kernel
theorem dX1_quartersOf_22 : decode cX1_quartersOf 22 = .ok (.bipush 7, 2) := by decide +kernel
theorem dX1_quartersOf_24 : decode cX1_quartersOf 24 = .ok (.if_icmp .ge 59, 3) := by decide +kernel
theorem dX1_quartersOf_27 : decode cX1_quartersOf 27 = .ok (.aload_n 0, 1) := by decide +kernel
theorem dX1_quartersOf_28 : decode cX1_quartersOf 28 = .ok (.iload 6, 2) := by decide +kernel
theorem dX1_quartersOf_30 : decode cX1_quartersOf 30 = .ok (.iload_n 2, 1) := by decide +kernel
theorem dX1_quartersOf_31 : decode cX1_quartersOf 31 = .ok (.invokevirtual 90, 3) := by decide +kernel
theorem dX1_quartersOf_34 : decode cX1_quartersOf 34 = .ok (.istore 7, 2) := by decide +kernel
theorem dX1_quartersOf_36 : decode cX1_quartersOf 36 = .ok (.iload 7, 2) := by decide +kernel
theorem dX1_quartersOf_38 : decode cX1_quartersOf 38 = .ok (.bipush 15, 2) := by decide +kernel
theorem dX1_quartersOf_40 : decode cX1_quartersOf 40 = .ok (.irem, 1) := by decide +kernel
theorem dX1_quartersOf_41 : decode cX1_quartersOf 41 = .ok (.iload_n 3, 1) := by decide +kernel
theorem dX1_quartersOf_42 : decode cX1_quartersOf 42 = .ok (.bipush 15, 2) := by decide +kernel
theorem dX1_quartersOf_44 : decode cX1_quartersOf 44 = .ok (.irem, 1) := by decide +kernel
theorem dX1_quartersOf_45 : decode cX1_quartersOf 45 = .ok (.isub, 1) := by decide +kernel
theorem dX1_quartersOf_46 : decode cX1_quartersOf 46 = .ok (.istore 8, 2) := by decide +kernel
theorem dX1_quartersOf_48 : decode cX1_quartersOf 48 = .ok (.iload 4, 2) := by decide +kernel
theorem dX1_quartersOf_50 : decode cX1_quartersOf 50 = .ok (.iload 7, 2) := by decide +kernel
theorem dX1_quartersOf_52 : decode cX1_quartersOf 52 = .ok (.bipush 15, 2) := by decide +kernel
theorem dX1_quartersOf_54 : decode cX1_quartersOf 54 = .ok (.idiv, 1) := by decide +kernel
theorem dX1_quartersOf_55 : decode cX1_quartersOf 55 = .ok (.isub, 1) := by decide +kernel
theorem dX1_quartersOf_56 : decode cX1_quartersOf 56 = .ok (.istore 4, 2) := by decide +kernel
theorem dX1_quartersOf_58 : decode cX1_quartersOf 58 = .ok (.iload 8, 2) := by decide +kernel
theorem dX1_quartersOf_60 : decode cX1_quartersOf 60 = .ok (.ifCond .gt 14, 3) := by decide +kernel
theorem dX1_quartersOf_63 : decode cX1_quartersOf 63 = .ok (.iload 8, 2) := by decide +kernel
theorem dX1_quartersOf_65 : decode cX1_quartersOf 65 = .ok (.ifCond .ne 12, 3) := by decide +kernel
theorem dX1_quartersOf_68 : decode cX1_quartersOf 68 = .ok (.iload 6, 2) := by decide +kernel
theorem dX1_quartersOf_70 : decode cX1_quartersOf 70 = .ok (.iload_n 1, 1) := by decide +kernel
theorem dX1_quartersOf_71 : decode cX1_quartersOf 71 = .ok (.if_icmp .ge 6, 3) := by decide +kernel
theorem dX1_quartersOf_74 : decode cX1_quartersOf 74 = .ok (.iinc 5 1, 3) := by decide +kernel
theorem dX1_quartersOf_77 : decode cX1_quartersOf 77 = .ok (.iinc 6 1, 3) := by decide +kernel
theorem dX1_quartersOf_80 : decode cX1_quartersOf 80 = .ok (.goto (-60), 3) := by decide +kernel
theorem dX1_quartersOf_83 : decode cX1_quartersOf 83 = .ok (.iload_n 3, 1) := by decide +kernel
theorem dX1_quartersOf_84 : decode cX1_quartersOf 84 = .ok (.bipush 15, 2) := by decide +kernel
theorem dX1_quartersOf_86 : decode cX1_quartersOf 86 = .ok (.idiv, 1) := by decide +kernel
theorem dX1_quartersOf_87 : decode cX1_quartersOf 87 = .ok (.iload 5, 2) := by decide +kernel
theorem dX1_quartersOf_89 : decode cX1_quartersOf 89 = .ok (.iload 4, 2) := by decide +kernel
theorem dX1_quartersOf_91 : decode cX1_quartersOf 91 = .ok (.if_icmp .ge 7, 3) := by decide +kernel
theorem dX1_quartersOf_94 : decode cX1_quartersOf 94 = .ok (.iconst 1, 1) := by decide +kernel
theorem dX1_quartersOf_95 : decode cX1_quartersOf 95 = .ok (.goto 4, 3) := by decide +kernel
theorem dX1_quartersOf_98 : decode cX1_quartersOf 98 = .ok (.iconst 0, 1) := by decide +kernel
theorem dX1_quartersOf_99 : decode cX1_quartersOf 99 = .ok (.iadd, 1) := by decide +kernel
theorem dX1_quartersOf_100 : decode cX1_quartersOf 100 = .ok (.ireturn, 1) := by decide +kernel
theorem dX1_quartersOfWeek_0 : decode cX1_quartersOfWeek 0 = .ok (.iconst 0, 1) := by decide +kernel
theorem dX1_quartersOfWeek_1 : decode cX1_quartersOfWeek 1 = .ok (.istore_n 2, 1) := by decide +kernel
theorem dX1_quartersOfWeek_2 : decode cX1_quartersOfWeek 2 = .ok (.iconst 0, 1) := by decide +kernel
theorem dX1_quartersOfWeek_3 : decode cX1_quartersOfWeek 3 = .ok (.istore_n 3, 1) := by decide +kernel
theorem dX1_quartersOfWeek_4 : decode cX1_quartersOfWeek 4 = .ok (.iload_n 3, 1) := by decide +kernel
theorem dX1_quartersOfWeek_5 : decode cX1_quartersOfWeek 5 = .ok (.bipush 7, 2) := by decide +kernel
theorem dX1_quartersOfWeek_7 : decode cX1_quartersOfWeek 7 = .ok (.if_icmp .ge 18, 3) := by decide +kernel
theorem dX1_quartersOfWeek_10 : decode cX1_quartersOfWeek 10 = .ok (.iload_n 2, 1) := by decide +kernel
theorem dX1_quartersOfWeek_11 : decode cX1_quartersOfWeek 11 = .ok (.aload_n 0, 1) := by decide +kernel
theorem dX1_quartersOfWeek_12 : decode cX1_quartersOfWeek 12 = .ok (.iload_n 3, 1) := by decide +kernel
theorem dX1_quartersOfWeek_13 : decode cX1_quartersOfWeek 13 = .ok (.iload_n 1, 1) := by decide +kernel
theorem dX1_quartersOfWeek_14 : decode cX1_quartersOfWeek 14 = .ok (.invokevirtual 90, 3) := by decide +kernel
theorem dX1_quartersOfWeek_17 : decode cX1_quartersOfWeek 17 = .ok (.iadd, 1) := by decide +kernel
theorem dX1_quartersOfWeek_18 : decode cX1_quartersOfWeek 18 = .ok (.istore_n 2, 1) := by decide +kernel
theorem dX1_quartersOfWeek_19 : decode cX1_quartersOfWeek 19 = .ok (.iinc 3 1, 3) := by decide +kernel
theorem dX1_quartersOfWeek_22 : decode cX1_quartersOfWeek 22 = .ok (.goto (-18), 3) := by decide +kernel
theorem dX1_quartersOfWeek_25 : decode cX1_quartersOfWeek 25 = .ok (.iload_n 2, 1) := by decide +kernel
theorem dX1_quartersOfWeek_26 : decode cX1_quartersOfWeek 26 = .ok (.bipush 7, 2) := by decide +kernel
theorem dX1_quartersOfWeek_28 : decode cX1_quartersOfWeek 28 = .ok (.iadd, 1) := by decide +kernel
theorem dX1_quartersOfWeek_29 : decode cX1_quartersOfWeek 29 = .ok (.bipush 15, 2) := by decide +kernel
theorem dX1_quartersOfWeek_31 : decode cX1_quartersOfWeek 31 = .ok (.idiv, 1) := by decide +kernel
theorem dX1_quartersOfWeek_32 : decode cX1_quartersOfWeek 32 = .ok (.ireturn, 1) := by decide +kernel
theorem dX1_basicPay_0 : decode cX1_basicPay 0 = .ok (.iconst 2, 1) := by decide +kernel
theorem dX1_basicPay_1 : decode cX1_basicPay 1 = .ok (.aload_n 0, 1) := by decide +kernel
theorem dX1_basicPay_2 : decode cX1_basicPay 2 = .ok (.iconst 0, 1) := by decide +kernel
theorem dX1_basicPay_3 : decode cX1_basicPay 3 = .ok (.invokevirtual 93, 3) := by decide +kernel
theorem dX1_basicPay_6 : decode cX1_basicPay 6 = .ok (.imul, 1) := by decide +kernel
theorem dX1_basicPay_7 : decode cX1_basicPay 7 = .ok (.iconst 3, 1) := by decide +kernel
theorem dX1_basicPay_8 : decode cX1_basicPay 8 = .ok (.aload_n 0, 1) := by decide +kernel
theorem dX1_basicPay_9 : decode cX1_basicPay 9 = .ok (.iconst 1, 1) := by decide +kernel
theorem dX1_basicPay_10 : decode cX1_basicPay 10 = .ok (.invokevirtual 93, 3) := by decide +kernel
theorem dX1_basicPay_13 : decode cX1_basicPay 13 = .ok (.imul, 1) := by decide +kernel
theorem dX1_basicPay_14 : decode cX1_basicPay 14 = .ok (.iadd, 1) := by decide +kernel
theorem dX1_basicPay_15 : decode cX1_basicPay 15 = .ok (.iconst 4, 1) := by decide +kernel
theorem dX1_basicPay_16 : decode cX1_basicPay 16 = .ok (.aload_n 0, 1) := by decide +kernel
theorem dX1_basicPay_17 : decode cX1_basicPay 17 = .ok (.iconst 2, 1) := by decide +kernel
theorem dX1_basicPay_18 : decode cX1_basicPay 18 = .ok (.invokevirtual 93, 3) := by decide +kernel
theorem dX1_basicPay_21 : decode cX1_basicPay 21 = .ok (.imul, 1) := by decide +kernel
theorem dX1_basicPay_22 : decode cX1_basicPay 22 = .ok (.iadd, 1) := by decide +kernel
theorem dX1_basicPay_23 : decode cX1_basicPay 23 = .ok (.istore_n 2, 1) := by decide +kernel
theorem dX1_basicPay_24 : decode cX1_basicPay 24 = .ok (.iload_n 1, 1) := by decide +kernel
theorem dX1_basicPay_25 : decode cX1_basicPay 25 = .ok (.iload_n 2, 1) := by decide +kernel
theorem dX1_basicPay_26 : decode cX1_basicPay 26 = .ok (.imul, 1) := by decide +kernel
theorem dX1_basicPay_27 : decode cX1_basicPay 27 = .ok (.iconst 4, 1) := by decide +kernel
theorem dX1_basicPay_28 : decode cX1_basicPay 28 = .ok (.iadd, 1) := by decide +kernel
theorem dX1_basicPay_29 : decode cX1_basicPay 29 = .ok (.bipush 8, 2) := by decide +kernel
theorem dX1_basicPay_31 : decode cX1_basicPay 31 = .ok (.idiv, 1) := by decide +kernel
theorem dX1_basicPay_32 : decode cX1_basicPay 32 = .ok (.ireturn, 1) := by decide +kernel
theorem dX6_init_0 : decode cX6_init 0 = .ok (.aload_n 0, 1) := by decide +kernel
theorem dX6_init_1 : decode cX6_init 1 = .ok (.invokespecial 3, 3) := by decide +kernel
theorem dX6_init_4 : decode cX6_init 4 = .ok (.aload_n 0, 1) := by decide +kernel
theorem dX6_init_5 : decode cX6_init 5 = .ok (.bipush 6, 2) := by decide +kernel
theorem dX6_init_7 : decode cX6_init 7 = .ok (.anewarray 9, 3) := by decide +kernel
theorem dX6_init_10 : decode cX6_init 10 = .ok (.putfield 11, 3) := by decide +kernel
theorem dX6_init_13 : decode cX6_init 13 = .ok (.aload_n 0, 1) := by decide +kernel
theorem dX6_init_14 : decode cX6_init 14 = .ok (.iconst 0, 1) := by decide +kernel
theorem dX6_init_15 : decode cX6_init 15 = .ok (.putfield 15, 3) := by decide +kernel
theorem dX6_init_18 : decode cX6_init 18 = .ok (.aload_n 0, 1) := by decide +kernel
theorem dX6_init_19 : decode cX6_init 19 = .ok (.new 19, 3) := by decide +kernel
theorem dX6_init_22 : decode cX6_init 22 = .ok (.dup, 1) := by decide +kernel
theorem dX6_init_23 : decode cX6_init 23 = .ok (.invokespecial 21, 3) := by decide +kernel
theorem dX6_init_26 : decode cX6_init 26 = .ok (.putfield 22, 3) := by decide +kernel
theorem dX6_init_29 : decode cX6_init 29 = .ok (.aload_n 0, 1) := by decide +kernel
theorem dX6_init_30 : decode cX6_init 30 = .ok (.new 26, 3) := by decide +kernel
theorem dX6_init_33 : decode cX6_init 33 = .ok (.dup, 1) := by decide +kernel
theorem dX6_init_34 : decode cX6_init 34 = .ok (.invokespecial 28, 3) := by decide +kernel
theorem dX6_init_37 : decode cX6_init 37 = .ok (.putfield 29, 3) := by decide +kernel
theorem dX6_init_40 : decode cX6_init 40 = .ok (.aload_n 0, 1) := by decide +kernel
theorem dX6_init_41 : decode cX6_init 41 = .ok (.aload_n 0, 1) := by decide +kernel
theorem dX6_init_42 : decode cX6_init 42 = .ok (.getfield 29, 3) := by decide +kernel
theorem dX6_init_45 : decode cX6_init 45 = .ok (.getfield 33, 3) := by decide +kernel
theorem dX6_init_48 : decode cX6_init 48 = .ok (.putfield 37, 3) := by decide +kernel
theorem dX6_init_51 : decode cX6_init 51 = .ok (.aload_n 0, 1) := by decide +kernel
theorem dX6_init_52 : decode cX6_init 52 = .ok (.aload_n 0, 1) := by decide +kernel
theorem dX6_init_53 : decode cX6_init 53 = .ok (.getfield 37, 3) := by decide +kernel
theorem dX6_init_56 : decode cX6_init 56 = .ok (.getfield 38, 3) := by decide +kernel
theorem dX6_init_59 : decode cX6_init 59 = .ok (.putfield 44, 3) := by decide +kernel
theorem dX6_init_62 : decode cX6_init 62 = .ok (.return_, 1) := by decide +kernel
theorem dX6_hire_0 : decode cX6_hire 0 = .ok (.iload_n 1, 1) := by decide +kernel
theorem dX6_hire_1 : decode cX6_hire 1 = .ok (.iconst 1, 1) := by decide +kernel
theorem dX6_hire_2 : decode cX6_hire 2 = .ok (.ldc 45, 2) := by decide +kernel
theorem dX6_hire_4 : decode cX6_hire 4 = .ok (.invokestatic 46, 3) := by decide +kernel
theorem dX6_hire_7 : decode cX6_hire 7 = .ok (.aload_n 0, 1) := by decide +kernel
theorem dX6_hire_8 : decode cX6_hire 8 = .ok (.getfield 15, 3) := by decide +kernel
theorem dX6_hire_11 : decode cX6_hire 11 = .ok (.istore_n 2, 1) := by decide +kernel
theorem dX6_hire_12 : decode cX6_hire 12 = .ok (.iload_n 2, 1) := by decide +kernel
theorem dX6_hire_13 : decode cX6_hire 13 = .ok (.ifCond .lt 12, 3) := by decide +kernel
theorem dX6_hire_16 : decode cX6_hire 16 = .ok (.iload_n 2, 1) := by decide +kernel
theorem dX6_hire_17 : decode cX6_hire 17 = .ok (.aload_n 0, 1) := by decide +kernel
theorem dX6_hire_18 : decode cX6_hire 18 = .ok (.getfield 11, 3) := by decide +kernel
theorem dX6_hire_21 : decode cX6_hire 21 = .ok (.arraylength, 1) := by decide +kernel
theorem dX6_hire_22 : decode cX6_hire 22 = .ok (.if_icmp .lt 13, 3) := by decide +kernel
theorem dX6_hire_25 : decode cX6_hire 25 = .ok (.new 50, 3) := by decide +kernel
theorem dX6_hire_28 : decode cX6_hire 28 = .ok (.dup, 1) := by decide +kernel
theorem dX6_hire_29 : decode cX6_hire 29 = .ok (.ldc 52, 2) := by decide +kernel
theorem dX6_hire_31 : decode cX6_hire 31 = .ok (.invokespecial 54, 3) := by decide +kernel
theorem dX6_hire_34 : decode cX6_hire 34 = .ok (.athrow, 1) := by decide +kernel
theorem dX6_hire_35 : decode cX6_hire 35 = .ok (.aload_n 0, 1) := by decide +kernel
theorem dX6_hire_36 : decode cX6_hire 36 = .ok (.getfield 11, 3) := by decide +kernel
theorem dX6_hire_39 : decode cX6_hire 39 = .ok (.iload_n 2, 1) := by decide +kernel
theorem dX6_hire_40 : decode cX6_hire 40 = .ok (.new 9, 3) := by decide +kernel
theorem dX6_hire_43 : decode cX6_hire 43 = .ok (.dup, 1) := by decide +kernel
theorem dX6_hire_44 : decode cX6_hire 44 = .ok (.iload_n 1, 1) := by decide +kernel
theorem dX6_hire_45 : decode cX6_hire 45 = .ok (.invokespecial 57, 3) := by decide +kernel
theorem dX6_hire_48 : decode cX6_hire 48 = .ok (.aastore, 1) := by decide +kernel
theorem dX6_hire_49 : decode cX6_hire 49 = .ok (.aload_n 0, 1) := by decide +kernel
theorem dX6_hire_50 : decode cX6_hire 50 = .ok (.iload_n 2, 1) := by decide +kernel
theorem dX6_hire_51 : decode cX6_hire 51 = .ok (.iconst 1, 1) := by decide +kernel
theorem dX6_hire_52 : decode cX6_hire 52 = .ok (.iadd, 1) := by decide +kernel
theorem dX6_hire_53 : decode cX6_hire 53 = .ok (.putfield 15, 3) := by decide +kernel
theorem dX6_hire_56 : decode cX6_hire 56 = .ok (.iload_n 2, 1) := by decide +kernel
theorem dX6_hire_57 : decode cX6_hire 57 = .ok (.ireturn, 1) := by decide +kernel
theorem dX6_setWage_0 : decode cX6_setWage 0 = .ok (.aload_n 0, 1) := by decide +kernel
theorem dX6_setWage_1 : decode cX6_setWage 1 = .ok (.iload_n 1, 1) := by decide +kernel
theorem dX6_setWage_2 : decode cX6_setWage 2 = .ok (.invokevirtual 60, 3) := by decide +kernel
theorem dX6_setWage_5 : decode cX6_setWage 5 = .ok (.astore_n 3, 1) := by decide +kernel
theorem dX6_setWage_6 : decode cX6_setWage 6 = .ok (.iload_n 2, 1) := by decide +kernel
theorem dX6_setWage_7 : decode cX6_setWage 7 = .ok (.iconst 1, 1) := by decide +kernel
theorem dX6_setWage_8 : decode cX6_setWage 8 = .ok (.ldc 45, 2) := by decide +kernel
theorem dX6_setWage_10 : decode cX6_setWage 10 = .ok (.invokestatic 46, 3) := by decide +kernel
theorem dX6_setWage_13 : decode cX6_setWage 13 = .ok (.aload_n 3, 1) := by decide +kernel
theorem dX6_setWage_14 : decode cX6_setWage 14 = .ok (.getfield 64, 3) := by decide +kernel
theorem dX6_setWage_17 : decode cX6_setWage 17 = .ok (.istore 4, 2) := by decide +kernel
theorem dX6_setWage_19 : decode cX6_setWage 19 = .ok (.aload_n 3, 1) := by decide +kernel
theorem dX6_setWage_20 : decode cX6_setWage 20 = .ok (.iload_n 2, 1) := by decide +kernel
theorem dX6_setWage_21 : decode cX6_setWage 21 = .ok (.putfield 64, 3) := by decide +kernel
theorem dX6_setWage_24 : decode cX6_setWage 24 = .ok (.iload 4, 2) := by decide +kernel
theorem dX6_setWage_26 : decode cX6_setWage 26 = .ok (.ireturn, 1) := by decide +kernel
theorem dX6_punch_0 : decode cX6_punch 0 = .ok (.aload_n 0, 1) := by decide +kernel
theorem dX6_punch_1 : decode cX6_punch 1 = .ok (.iload_n 1, 1) := by decide +kernel
theorem dX6_punch_2 : decode cX6_punch 2 = .ok (.invokevirtual 60, 3) := by decide +kernel
theorem dX6_punch_5 : decode cX6_punch 5 = .ok (.getfield 67, 3) := by decide +kernel
theorem dX6_punch_8 : decode cX6_punch 8 = .ok (.astore 4, 2) := by decide +kernel
theorem dX6_punch_10 : decode cX6_punch 10 = .ok (.iload_n 2, 1) := by decide +kernel
theorem dX6_punch_11 : decode cX6_punch 11 = .ok (.iconst 0, 1) := by decide +kernel
theorem dX6_punch_12 : decode cX6_punch 12 = .ok (.sipush 10080, 3) := by decide +kernel
theorem dX6_punch_15 : decode cX6_punch 15 = .ok (.invokestatic 46, 3) := by decide +kernel
theorem dX6_punch_18 : decode cX6_punch 18 = .ok (.aload 4, 2) := by decide +kernel
theorem dX6_punch_20 : decode cX6_punch 20 = .ok (.bipush 40, 2) := by decide +kernel
theorem dX6_punch_22 : decode cX6_punch 22 = .ok (.invokestatic 71, 3) := by decide +kernel
theorem dX6_punch_25 : decode cX6_punch 25 = .ok (.aload 4, 2) := by decide +kernel
theorem dX6_punch_27 : decode cX6_punch 27 = .ok (.iload_n 2, 1) := by decide +kernel
theorem dX6_punch_28 : decode cX6_punch 28 = .ok (.invokestatic 75, 3) := by decide +kernel
theorem dX6_punch_31 : decode cX6_punch 31 = .ok (.istore 5, 2) := by decide +kernel
theorem dX6_punch_33 : decode cX6_punch 33 = .ok (.aload 4, 2) := by decide +kernel
theorem dX6_punch_35 : decode cX6_punch 35 = .ok (.iload 5, 2) := by decide +kernel
theorem dX6_punch_37 : decode cX6_punch 37 = .ok (.iload_n 2, 1) := by decide +kernel
theorem dX6_punch_38 : decode cX6_punch 38 = .ok (.invokestatic 79, 3) := by decide +kernel
theorem dX6_punch_41 : decode cX6_punch 41 = .ok (.ifCond .eq 13, 3) := by decide +kernel
theorem dX6_punch_44 : decode cX6_punch 44 = .ok (.new 50, 3) := by decide +kernel
theorem dX6_punch_47 : decode cX6_punch 47 = .ok (.dup, 1) := by decide +kernel
theorem dX6_punch_48 : decode cX6_punch 48 = .ok (.ldc 83, 2) := by decide +kernel
theorem dX6_punch_50 : decode cX6_punch 50 = .ok (.invokespecial 54, 3) := by decide +kernel
theorem dX6_punch_53 : decode cX6_punch 53 = .ok (.athrow, 1) := by decide +kernel
theorem dX6_punch_54 : decode cX6_punch 54 = .ok (.aload 4, 2) := by decide +kernel
theorem dX6_punch_56 : decode cX6_punch 56 = .ok (.iload 5, 2) := by decide +kernel
theorem dX6_punch_58 : decode cX6_punch 58 = .ok (.invokevirtual 85, 3) := by decide +kernel
theorem dX6_punch_61 : decode cX6_punch 61 = .ok (.aload 4, 2) := by decide +kernel
theorem dX6_punch_63 : decode cX6_punch 63 = .ok (.iload 5, 2) := by decide +kernel
theorem dX6_punch_65 : decode cX6_punch 65 = .ok (.iconst 0, 1) := by decide +kernel
theorem dX6_punch_66 : decode cX6_punch 66 = .ok (.iload_n 2, 1) := by decide +kernel
theorem dX6_punch_67 : decode cX6_punch 67 = .ok (.invokevirtual 90, 3) := by decide +kernel
theorem dX6_punch_70 : decode cX6_punch 70 = .ok (.aload 4, 2) := by decide +kernel
theorem dX6_punch_72 : decode cX6_punch 72 = .ok (.iload 5, 2) := by decide +kernel
theorem dX6_punch_74 : decode cX6_punch 74 = .ok (.iconst 1, 1) := by decide +kernel
theorem dX6_punch_75 : decode cX6_punch 75 = .ok (.iload_n 3, 1) := by decide +kernel
theorem dX6_punch_76 : decode cX6_punch 76 = .ok (.ifCond .eq 7, 3) := by decide +kernel
theorem dX6_punch_79 : decode cX6_punch 79 = .ok (.iconst 1, 1) := by decide +kernel
theorem dX6_punch_80 : decode cX6_punch 80 = .ok (.goto 4, 3) := by decide +kernel
theorem dX6_punch_83 : decode cX6_punch 83 = .ok (.iconst 0, 1) := by decide +kernel
theorem dX6_punch_84 : decode cX6_punch 84 = .ok (.invokevirtual 90, 3) := by decide +kernel
theorem dX6_punch_87 : decode cX6_punch 87 = .ok (.aload 4, 2) := by decide +kernel
theorem dX6_punch_89 : decode cX6_punch 89 = .ok (.invokevirtual 93, 3) := by decide +kernel
theorem dX6_punch_92 : decode cX6_punch 92 = .ok (.ireturn, 1) := by decide +kernel
theorem dX6_removePunch_0 : decode cX6_removePunch 0 = .ok (.aload_n 0, 1) := by decide +kernel
theorem dX6_removePunch_1 : decode cX6_removePunch 1 = .ok (.iload_n 1, 1) := by decide +kernel
theorem dX6_removePunch_2 : decode cX6_removePunch 2 = .ok (.invokevirtual 60, 3) := by decide +kernel
theorem dX6_removePunch_5 : decode cX6_removePunch 5 = .ok (.getfield 67, 3) := by decide +kernel
theorem dX6_removePunch_8 : decode cX6_removePunch 8 = .ok (.astore_n 3, 1) := by decide +kernel
theorem dX6_removePunch_9 : decode cX6_removePunch 9 = .ok (.aload_n 3, 1) := by decide +kernel
theorem dX6_removePunch_10 : decode cX6_removePunch 10 = .ok (.iload_n 2, 1) := by decide +kernel
theorem dX6_removePunch_11 : decode cX6_removePunch 11 = .ok (.invokestatic 75, 3) := by decide +kernel
theorem dX6_removePunch_14 : decode cX6_removePunch 14 = .ok (.istore 4, 2) := by decide +kernel
theorem dX6_removePunch_16 : decode cX6_removePunch 16 = .ok (.aload_n 3, 1) := by decide +kernel
theorem dX6_removePunch_17 : decode cX6_removePunch 17 = .ok (.iload 4, 2) := by decide +kernel
theorem dX6_removePunch_19 : decode cX6_removePunch 19 = .ok (.iload_n 2, 1) := by decide +kernel
theorem dX6_removePunch_20 : decode cX6_removePunch 20 = .ok (.invokestatic 79, 3) := by decide +kernel
theorem dX6_removePunch_23 : decode cX6_removePunch 23 = .ok (.ifCond .ne 13, 3) := by decide +kernel
theorem dX6_removePunch_26 : decode cX6_removePunch 26 = .ok (.new 97, 3) := by decide +kernel
theorem dX6_removePunch_29 : decode cX6_removePunch 29 = .ok (.dup, 1) := by decide +kernel
theorem dX6_removePunch_30 : decode cX6_removePunch 30 = .ok (.ldc 99, 2) := by decide +kernel
theorem dX6_removePunch_32 : decode cX6_removePunch 32 = .ok (.invokespecial 101, 3) := by decide +kernel
theorem dX6_removePunch_35 : decode cX6_removePunch 35 = .ok (.athrow, 1) := by decide +kernel
theorem dX6_removePunch_36 : decode cX6_removePunch 36 = .ok (.aload_n 3, 1) := by decide +kernel
theorem dX6_removePunch_37 : decode cX6_removePunch 37 = .ok (.iload 4, 2) := by decide +kernel
theorem dX6_removePunch_39 : decode cX6_removePunch 39 = .ok (.iconst 1, 1) := by decide +kernel
theorem dX6_removePunch_40 : decode cX6_removePunch 40 = .ok (.invokevirtual 102, 3) := by decide +kernel
theorem dX6_removePunch_43 : decode cX6_removePunch 43 = .ok (.iconst 1, 1) := by decide +kernel
theorem dX6_removePunch_44 : decode cX6_removePunch 44 = .ok (.if_icmp .ne 7, 3) := by decide +kernel
theorem dX6_removePunch_47 : decode cX6_removePunch 47 = .ok (.iconst 1, 1) := by decide +kernel
theorem dX6_removePunch_48 : decode cX6_removePunch 48 = .ok (.goto 4, 3) := by decide +kernel
theorem dX6_removePunch_51 : decode cX6_removePunch 51 = .ok (.iconst 0, 1) := by decide +kernel
theorem dX6_removePunch_52 : decode cX6_removePunch 52 = .ok (.istore 5, 2) := by decide +kernel
theorem dX6_removePunch_54 : decode cX6_removePunch 54 = .ok (.aload_n 3, 1) := by decide +kernel
theorem dX6_removePunch_55 : decode cX6_removePunch 55 = .ok (.iload 4, 2) := by decide +kernel
theorem dX6_removePunch_57 : decode cX6_removePunch 57 = .ok (.invokevirtual 106, 3) := by decide +kernel
theorem dX6_removePunch_60 : decode cX6_removePunch 60 = .ok (.iload 5, 2) := by decide +kernel
theorem dX6_removePunch_62 : decode cX6_removePunch 62 = .ok (.ireturn, 1) := by decide +kernel
theorem dX6_enter_0 : decode cX6_enter 0 = .ok (.aload_n 0, 1) := by decide +kernel
theorem dX6_enter_1 : decode cX6_enter 1 = .ok (.iload_n 1, 1) := by decide +kernel
theorem dX6_enter_2 : decode cX6_enter 2 = .ok (.invokevirtual 60, 3) := by decide +kernel
theorem dX6_enter_5 : decode cX6_enter 5 = .ok (.getfield 109, 3) := by decide +kernel
theorem dX6_enter_8 : decode cX6_enter 8 = .ok (.iload_n 2, 1) := by decide +kernel
theorem dX6_enter_9 : decode cX6_enter 9 = .ok (.iload_n 3, 1) := by decide +kernel
theorem dX6_enter_10 : decode cX6_enter 10 = .ok (.bipush 20, 2) := by decide +kernel
theorem dX6_enter_12 : decode cX6_enter 12 = .ok (.invokestatic 112, 3) := by decide +kernel
theorem dX6_enter_15 : decode cX6_enter 15 = .ok (.ireturn, 1) := by decide +kernel
theorem dX6_removeEntry_0 : decode cX6_removeEntry 0 = .ok (.aload_n 0, 1) := by decide +kernel
theorem dX6_removeEntry_1 : decode cX6_removeEntry 1 = .ok (.iload_n 1, 1) := by decide +kernel
theorem dX6_removeEntry_2 : decode cX6_removeEntry 2 = .ok (.invokevirtual 60, 3) := by decide +kernel
theorem dX6_removeEntry_5 : decode cX6_removeEntry 5 = .ok (.getfield 109, 3) := by decide +kernel
theorem dX6_removeEntry_8 : decode cX6_removeEntry 8 = .ok (.iload_n 2, 1) := by decide +kernel
theorem dX6_removeEntry_9 : decode cX6_removeEntry 9 = .ok (.invokestatic 116, 3) := by decide +kernel
theorem dX6_removeEntry_12 : decode cX6_removeEntry 12 = .ok (.ireturn, 1) := by decide +kernel
theorem dX6_enterBreak_0 : decode cX6_enterBreak 0 = .ok (.aload_n 0, 1) := by decide +kernel
theorem dX6_enterBreak_1 : decode cX6_enterBreak 1 = .ok (.iload_n 1, 1) := by decide +kernel
theorem dX6_enterBreak_2 : decode cX6_enterBreak 2 = .ok (.invokevirtual 60, 3) := by decide +kernel
theorem dX6_enterBreak_5 : decode cX6_enterBreak 5 = .ok (.getfield 119, 3) := by decide +kernel
theorem dX6_enterBreak_8 : decode cX6_enterBreak 8 = .ok (.iload_n 2, 1) := by decide +kernel
theorem dX6_enterBreak_9 : decode cX6_enterBreak 9 = .ok (.iload_n 3, 1) := by decide +kernel
theorem dX6_enterBreak_10 : decode cX6_enterBreak 10 = .ok (.bipush 20, 2) := by decide +kernel
theorem dX6_enterBreak_12 : decode cX6_enterBreak 12 = .ok (.invokestatic 112, 3) := by decide +kernel
theorem dX6_enterBreak_15 : decode cX6_enterBreak 15 = .ok (.ireturn, 1) := by decide +kernel
theorem dX6_removeBreak_0 : decode cX6_removeBreak 0 = .ok (.aload_n 0, 1) := by decide +kernel
theorem dX6_removeBreak_1 : decode cX6_removeBreak 1 = .ok (.iload_n 1, 1) := by decide +kernel
theorem dX6_removeBreak_2 : decode cX6_removeBreak 2 = .ok (.invokevirtual 60, 3) := by decide +kernel
theorem dX6_removeBreak_5 : decode cX6_removeBreak 5 = .ok (.getfield 119, 3) := by decide +kernel
theorem dX6_removeBreak_8 : decode cX6_removeBreak 8 = .ok (.iload_n 2, 1) := by decide +kernel
theorem dX6_removeBreak_9 : decode cX6_removeBreak 9 = .ok (.invokestatic 116, 3) := by decide +kernel
theorem dX6_removeBreak_12 : decode cX6_removeBreak 12 = .ok (.ireturn, 1) := by decide +kernel
theorem dX6_addPremium_0 : decode cX6_addPremium 0 = .ok (.iload_n 1, 1) := by decide +kernel
theorem dX6_addPremium_1 : decode cX6_addPremium 1 = .ok (.iconst 1, 1) := by decide +kernel
theorem dX6_addPremium_2 : decode cX6_addPremium 2 = .ok (.bipush 127, 2) := by decide +kernel
theorem dX6_addPremium_4 : decode cX6_addPremium 4 = .ok (.invokestatic 46, 3) := by decide +kernel
theorem dX6_addPremium_7 : decode cX6_addPremium 7 = .ok (.iload_n 2, 1) := by decide +kernel
theorem dX6_addPremium_8 : decode cX6_addPremium 8 = .ok (.iconst 0, 1) := by decide +kernel
theorem dX6_addPremium_9 : decode cX6_addPremium 9 = .ok (.sipush 1439, 3) := by decide +kernel
theorem dX6_addPremium_12 : decode cX6_addPremium 12 = .ok (.invokestatic 46, 3) := by decide +kernel
theorem dX6_addPremium_15 : decode cX6_addPremium 15 = .ok (.iload_n 3, 1) := by decide +kernel
theorem dX6_addPremium_16 : decode cX6_addPremium 16 = .ok (.iconst 0, 1) := by decide +kernel
theorem dX6_addPremium_17 : decode cX6_addPremium 17 = .ok (.sipush 1439, 3) := by decide +kernel
theorem dX6_addPremium_20 : decode cX6_addPremium 20 = .ok (.invokestatic 46, 3) := by decide +kernel
theorem dX6_addPremium_23 : decode cX6_addPremium 23 = .ok (.iload 4, 2) := by decide +kernel
theorem dX6_addPremium_25 : decode cX6_addPremium 25 = .ok (.iconst 1, 1) := by decide +kernel
theorem dX6_addPremium_26 : decode cX6_addPremium 26 = .ok (.sipush 10000, 3) := by decide +kernel
theorem dX6_addPremium_29 : decode cX6_addPremium 29 = .ok (.invokestatic 46, 3) := by decide +kernel
theorem dX6_addPremium_32 : decode cX6_addPremium 32 = .ok (.aload_n 0, 1) := by decide +kernel
theorem dX6_addPremium_33 : decode cX6_addPremium 33 = .ok (.getfield 22, 3) := by decide +kernel
theorem dX6_addPremium_36 : decode cX6_addPremium 36 = .ok (.getfield 122, 3) := by decide +kernel
theorem dX6_addPremium_39 : decode cX6_addPremium 39 = .ok (.bipush 6, 2) := by decide +kernel
theorem dX6_addPremium_41 : decode cX6_addPremium 41 = .ok (.invokestatic 71, 3) := by decide +kernel
theorem dX6_addPremium_44 : decode cX6_addPremium 44 = .ok (.aload_n 0, 1) := by decide +kernel
theorem dX6_addPremium_45 : decode cX6_addPremium 45 = .ok (.getfield 22, 3) := by decide +kernel
theorem dX6_addPremium_48 : decode cX6_addPremium 48 = .ok (.iload_n 1, 1) := by decide +kernel
theorem dX6_addPremium_49 : decode cX6_addPremium 49 = .ok (.iload_n 2, 1) := by decide +kernel
theorem dX6_addPremium_50 : decode cX6_addPremium 50 = .ok (.iload_n 3, 1) := by decide +kernel
theorem dX6_addPremium_51 : decode cX6_addPremium 51 = .ok (.iload 4, 2) := by decide +kernel
theorem dX6_addPremium_53 : decode cX6_addPremium 53 = .ok (.invokevirtual 125, 3) := by decide +kernel
theorem dX6_addPremium_56 : decode cX6_addPremium 56 = .ok (.ireturn, 1) := by decide +kernel
theorem dX6_removePremium_0 : decode cX6_removePremium 0 = .ok (.aload_n 0, 1) := by decide +kernel
theorem dX6_removePremium_1 : decode cX6_removePremium 1 = .ok (.getfield 22, 3) := by decide +kernel
theorem dX6_removePremium_4 : decode cX6_removePremium 4 = .ok (.getfield 122, 3) := by decide +kernel
theorem dX6_removePremium_7 : decode cX6_removePremium 7 = .ok (.iload_n 1, 1) := by decide +kernel
theorem dX6_removePremium_8 : decode cX6_removePremium 8 = .ok (.invokestatic 116, 3) := by decide +kernel
theorem dX6_removePremium_11 : decode cX6_removePremium 11 = .ok (.ireturn, 1) := by decide +kernel
theorem dX6_closeWeek_0 : decode cX6_closeWeek 0 = .ok (.aload_n 0, 1) := by decide +kernel
theorem dX6_closeWeek_1 : decode cX6_closeWeek 1 = .ok (.iload_n 1, 1) := by decide +kernel
theorem dX6_closeWeek_2 : decode cX6_closeWeek 2 = .ok (.invokevirtual 60, 3) := by decide +kernel
theorem dX6_closeWeek_5 : decode cX6_closeWeek 5 = .ok (.astore_n 2, 1) := by decide +kernel
theorem dX6_closeWeek_6 : decode cX6_closeWeek 6 = .ok (.aload_n 2, 1) := by decide +kernel
theorem dX6_closeWeek_7 : decode cX6_closeWeek 7 = .ok (.getfield 67, 3) := by decide +kernel
theorem dX6_closeWeek_10 : decode cX6_closeWeek 10 = .ok (.invokevirtual 93, 3) := by decide +kernel
theorem dX6_closeWeek_13 : decode cX6_closeWeek 13 = .ok (.ifCond .ne 23, 3) := by decide +kernel
theorem dX6_closeWeek_16 : decode cX6_closeWeek 16 = .ok (.aload_n 2, 1) := by decide +kernel
theorem dX6_closeWeek_17 : decode cX6_closeWeek 17 = .ok (.getfield 109, 3) := by decide +kernel
theorem dX6_closeWeek_20 : decode cX6_closeWeek 20 = .ok (.invokevirtual 93, 3) := by decide +kernel
theorem dX6_closeWeek_23 : decode cX6_closeWeek 23 = .ok (.ifCond .ne 13, 3) := by decide +kernel
theorem dX6_closeWeek_26 : decode cX6_closeWeek 26 = .ok (.new 50, 3) := by decide +kernel
theorem dX6_closeWeek_29 : decode cX6_closeWeek 29 = .ok (.dup, 1) := by decide +kernel
theorem dX6_closeWeek_30 : decode cX6_closeWeek 30 = .ok (.ldc 129, 2) := by decide +kernel
theorem dX6_closeWeek_32 : decode cX6_closeWeek 32 = .ok (.invokespecial 54, 3) := by decide +kernel
theorem dX6_closeWeek_35 : decode cX6_closeWeek 35 = .ok (.athrow, 1) := by decide +kernel
theorem dX6_closeWeek_36 : decode cX6_closeWeek 36 = .ok (.aload_n 0, 1) := by decide +kernel
theorem dX6_closeWeek_37 : decode cX6_closeWeek 37 = .ok (.getfield 29, 3) := by decide +kernel
theorem dX6_closeWeek_40 : decode cX6_closeWeek 40 = .ok (.aload_n 2, 1) := by decide +kernel
theorem dX6_closeWeek_41 : decode cX6_closeWeek 41 = .ok (.invokevirtual 131, 3) := by decide +kernel
theorem dX6_closeWeek_44 : decode cX6_closeWeek 44 = .ok (.aload_n 0, 1) := by decide +kernel
theorem dX6_closeWeek_45 : decode cX6_closeWeek 45 = .ok (.getfield 29, 3) := by decide +kernel
theorem dX6_closeWeek_48 : decode cX6_closeWeek 48 = .ok (.aload_n 2, 1) := by decide +kernel
theorem dX6_closeWeek_49 : decode cX6_closeWeek 49 = .ok (.getfield 64, 3) := by decide +kernel
theorem dX6_closeWeek_52 : decode cX6_closeWeek 52 = .ok (.invokevirtual 135, 3) := by decide +kernel
theorem dX6_closeWeek_55 : decode cX6_closeWeek 55 = .ok (.aload_n 0, 1) := by decide +kernel
theorem dX6_closeWeek_56 : decode cX6_closeWeek 56 = .ok (.getfield 22, 3) := by decide +kernel
theorem dX6_closeWeek_59 : decode cX6_closeWeek 59 = .ok (.aload_n 0, 1) := by decide +kernel
theorem dX6_closeWeek_60 : decode cX6_closeWeek 60 = .ok (.getfield 29, 3) := by decide +kernel
theorem dX6_closeWeek_63 : decode cX6_closeWeek 63 = .ok (.getfield 139, 3) := by decide +kernel
theorem dX6_closeWeek_66 : decode cX6_closeWeek 66 = .ok (.invokevirtual 142, 3) := by decide +kernel
theorem dX6_closeWeek_69 : decode cX6_closeWeek 69 = .ok (.iadd, 1) := by decide +kernel
theorem dX6_closeWeek_70 : decode cX6_closeWeek 70 = .ok (.istore_n 3, 1) := by decide +kernel
theorem dX6_closeWeek_71 : decode cX6_closeWeek 71 = .ok (.aload_n 2, 1) := by decide +kernel
theorem dX6_closeWeek_72 : decode cX6_closeWeek 72 = .ok (.iload_n 3, 1) := by decide +kernel
theorem dX6_closeWeek_73 : decode cX6_closeWeek 73 = .ok (.invokevirtual 146, 3) := by decide +kernel
theorem dX6_closeWeek_76 : decode cX6_closeWeek 76 = .ok (.iload_n 3, 1) := by decide +kernel
theorem dX6_closeWeek_77 : decode cX6_closeWeek 77 = .ok (.ireturn, 1) := by decide +kernel
theorem dX6_employees_0 : decode cX6_employees 0 = .ok (.aload_n 0, 1) := by decide +kernel
theorem dX6_employees_1 : decode cX6_employees 1 = .ok (.getfield 15, 3) := by decide +kernel
theorem dX6_employees_4 : decode cX6_employees 4 = .ok (.ireturn, 1) := by decide +kernel
theorem dX6_closedWeeks_0 : decode cX6_closedWeeks 0 = .ok (.aload_n 0, 1) := by decide +kernel
theorem dX6_closedWeeks_1 : decode cX6_closedWeeks 1 = .ok (.iload_n 1, 1) := by decide +kernel
theorem dX6_closedWeeks_2 : decode cX6_closedWeeks 2 = .ok (.invokevirtual 60, 3) := by decide +kernel
theorem dX6_closedWeeks_5 : decode cX6_closedWeeks 5 = .ok (.getfield 149, 3) := by decide +kernel
theorem dX6_closedWeeks_8 : decode cX6_closedWeeks 8 = .ok (.ireturn, 1) := by decide +kernel
theorem dX6_earned_0 : decode cX6_earned 0 = .ok (.aload_n 0, 1) := by decide +kernel
theorem dX6_earned_1 : decode cX6_earned 1 = .ok (.iload_n 1, 1) := by decide +kernel
theorem dX6_earned_2 : decode cX6_earned 2 = .ok (.invokevirtual 60, 3) := by decide +kernel
theorem dX6_earned_5 : decode cX6_earned 5 = .ok (.getfield 152, 3) := by decide +kernel
theorem dX6_earned_8 : decode cX6_earned 8 = .ok (.lreturn, 1) := by decide +kernel
theorem dX6_shifts_0 : decode cX6_shifts 0 = .ok (.aload_n 0, 1) := by decide +kernel
theorem dX6_shifts_1 : decode cX6_shifts 1 = .ok (.getfield 44, 3) := by decide +kernel
theorem dX6_shifts_4 : decode cX6_shifts 4 = .ok (.aload_n 0, 1) := by decide +kernel
theorem dX6_shifts_5 : decode cX6_shifts 5 = .ok (.iload_n 1, 1) := by decide +kernel
theorem dX6_shifts_6 : decode cX6_shifts 6 = .ok (.invokevirtual 60, 3) := by decide +kernel
theorem dX6_shifts_9 : decode cX6_shifts 9 = .ok (.getfield 67, 3) := by decide +kernel
theorem dX6_shifts_12 : decode cX6_shifts 12 = .ok (.invokevirtual 156, 3) := by decide +kernel
theorem dX6_shifts_15 : decode cX6_shifts 15 = .ok (.aload_n 0, 1) := by decide +kernel
theorem dX6_shifts_16 : decode cX6_shifts 16 = .ok (.getfield 44, 3) := by decide +kernel
theorem dX6_shifts_19 : decode cX6_shifts 19 = .ok (.getfield 161, 3) := by decide +kernel
theorem dX6_shifts_22 : decode cX6_shifts 22 = .ok (.invokevirtual 93, 3) := by decide +kernel
theorem dX6_shifts_25 : decode cX6_shifts 25 = .ok (.ireturn, 1) := by decide +kernel
theorem dX6_shiftBegin_0 : decode cX6_shiftBegin 0 = .ok (.aload_n 0, 1) := by decide +kernel
theorem dX6_shiftBegin_1 : decode cX6_shiftBegin 1 = .ok (.getfield 44, 3) := by decide +kernel
theorem dX6_shiftBegin_4 : decode cX6_shiftBegin 4 = .ok (.aload_n 0, 1) := by decide +kernel
theorem dX6_shiftBegin_5 : decode cX6_shiftBegin 5 = .ok (.iload_n 1, 1) := by decide +kernel
theorem dX6_shiftBegin_6 : decode cX6_shiftBegin 6 = .ok (.invokevirtual 60, 3) := by decide +kernel
theorem dX6_shiftBegin_9 : decode cX6_shiftBegin 9 = .ok (.getfield 67, 3) := by decide +kernel
theorem dX6_shiftBegin_12 : decode cX6_shiftBegin 12 = .ok (.invokevirtual 156, 3) := by decide +kernel
theorem dX6_shiftBegin_15 : decode cX6_shiftBegin 15 = .ok (.aload_n 0, 1) := by decide +kernel
theorem dX6_shiftBegin_16 : decode cX6_shiftBegin 16 = .ok (.getfield 44, 3) := by decide +kernel
theorem dX6_shiftBegin_19 : decode cX6_shiftBegin 19 = .ok (.getfield 161, 3) := by decide +kernel
theorem dX6_shiftBegin_22 : decode cX6_shiftBegin 22 = .ok (.iload_n 2, 1) := by decide +kernel
theorem dX6_shiftBegin_23 : decode cX6_shiftBegin 23 = .ok (.invokestatic 164, 3) := by decide +kernel
theorem dX6_shiftBegin_26 : decode cX6_shiftBegin 26 = .ok (.aload_n 0, 1) := by decide +kernel
theorem dX6_shiftBegin_27 : decode cX6_shiftBegin 27 = .ok (.getfield 44, 3) := by decide +kernel
theorem dX6_shiftBegin_30 : decode cX6_shiftBegin 30 = .ok (.getfield 161, 3) := by decide +kernel
theorem dX6_shiftBegin_33 : decode cX6_shiftBegin 33 = .ok (.iload_n 2, 1) := by decide +kernel
theorem dX6_shiftBegin_34 : decode cX6_shiftBegin 34 = .ok (.iconst 0, 1) := by decide +kernel
theorem dX6_shiftBegin_35 : decode cX6_shiftBegin 35 = .ok (.invokevirtual 102, 3) := by decide +kernel
theorem dX6_shiftBegin_38 : decode cX6_shiftBegin 38 = .ok (.ireturn, 1) := by decide +kernel
theorem dX6_shiftEnd_0 : decode cX6_shiftEnd 0 = .ok (.aload_n 0, 1) := by decide +kernel
theorem dX6_shiftEnd_1 : decode cX6_shiftEnd 1 = .ok (.getfield 44, 3) := by decide +kernel
theorem dX6_shiftEnd_4 : decode cX6_shiftEnd 4 = .ok (.aload_n 0, 1) := by decide +kernel
theorem dX6_shiftEnd_5 : decode cX6_shiftEnd 5 = .ok (.iload_n 1, 1) := by decide +kernel
theorem dX6_shiftEnd_6 : decode cX6_shiftEnd 6 = .ok (.invokevirtual 60, 3) := by decide +kernel
theorem dX6_shiftEnd_9 : decode cX6_shiftEnd 9 = .ok (.getfield 67, 3) := by decide +kernel
theorem dX6_shiftEnd_12 : decode cX6_shiftEnd 12 = .ok (.invokevirtual 156, 3) := by decide +kernel
theorem dX6_shiftEnd_15 : decode cX6_shiftEnd 15 = .ok (.aload_n 0, 1) := by decide +kernel
theorem dX6_shiftEnd_16 : decode cX6_shiftEnd 16 = .ok (.getfield 44, 3) := by decide +kernel
theorem dX6_shiftEnd_19 : decode cX6_shiftEnd 19 = .ok (.getfield 161, 3) := by decide +kernel
theorem dX6_shiftEnd_22 : decode cX6_shiftEnd 22 = .ok (.iload_n 2, 1) := by decide +kernel
theorem dX6_shiftEnd_23 : decode cX6_shiftEnd 23 = .ok (.invokestatic 164, 3) := by decide +kernel
theorem dX6_shiftEnd_26 : decode cX6_shiftEnd 26 = .ok (.aload_n 0, 1) := by decide +kernel
theorem dX6_shiftEnd_27 : decode cX6_shiftEnd 27 = .ok (.getfield 44, 3) := by decide +kernel
theorem dX6_shiftEnd_30 : decode cX6_shiftEnd 30 = .ok (.getfield 161, 3) := by decide +kernel
theorem dX6_shiftEnd_33 : decode cX6_shiftEnd 33 = .ok (.iload_n 2, 1) := by decide +kernel
theorem dX6_shiftEnd_34 : decode cX6_shiftEnd 34 = .ok (.iconst 1, 1) := by decide +kernel
theorem dX6_shiftEnd_35 : decode cX6_shiftEnd 35 = .ok (.invokevirtual 102, 3) := by decide +kernel
theorem dX6_shiftEnd_38 : decode cX6_shiftEnd 38 = .ok (.ireturn, 1) := by decide +kernel
theorem dX6_repairedShifts_0 : decode cX6_repairedShifts 0 = .ok (.aload_n 0, 1) := by decide +kernel
theorem dX6_repairedShifts_1 : decode cX6_repairedShifts 1 = .ok (.getfield 44, 3) := by decide +kernel
theorem dX6_repairedShifts_4 : decode cX6_repairedShifts 4 = .ok (.aload_n 0, 1) := by decide +kernel
theorem dX6_repairedShifts_5 : decode cX6_repairedShifts 5 = .ok (.iload_n 1, 1) := by decide +kernel
theorem dX6_repairedShifts_6 : decode cX6_repairedShifts 6 = .ok (.invokevirtual 60, 3) := by decide +kernel
theorem dX6_repairedShifts_9 : decode cX6_repairedShifts 9 = .ok (.getfield 67, 3) := by decide +kernel
theorem dX6_repairedShifts_12 : decode cX6_repairedShifts 12 = .ok (.invokevirtual 156, 3) := by decide +kernel
theorem dX6_repairedShifts_15 : decode cX6_repairedShifts 15 = .ok (.aload_n 0, 1) := by decide +kernel
theorem dX6_repairedShifts_16 : decode cX6_repairedShifts 16 = .ok (.getfield 44, 3) := by decide +kernel
theorem dX6_repairedShifts_19 : decode cX6_repairedShifts 19 = .ok (.getfield 167, 3) := by decide +kernel
theorem dX6_repairedShifts_22 : decode cX6_repairedShifts 22 = .ok (.ireturn, 1) := by decide +kernel
theorem dX6_coverage_0 : decode cX6_coverage 0 = .ok (.aload_n 0, 1) := by decide +kernel
theorem dX6_coverage_1 : decode cX6_coverage 1 = .ok (.iload_n 1, 1) := by decide +kernel
theorem dX6_coverage_2 : decode cX6_coverage 2 = .ok (.invokevirtual 60, 3) := by decide +kernel
theorem dX6_coverage_5 : decode cX6_coverage 5 = .ok (.astore_n 3, 1) := by decide +kernel
theorem dX6_coverage_6 : decode cX6_coverage 6 = .ok (.iload_n 2, 1) := by decide +kernel
theorem dX6_coverage_7 : decode cX6_coverage 7 = .ok (.iconst 0, 1) := by decide +kernel
theorem dX6_coverage_8 : decode cX6_coverage 8 = .ok (.sipush 10079, 3) := by decide +kernel
theorem dX6_coverage_11 : decode cX6_coverage 11 = .ok (.invokestatic 46, 3) := by decide +kernel
theorem dX6_coverage_14 : decode cX6_coverage 14 = .ok (.aload_n 0, 1) := by decide +kernel
theorem dX6_coverage_15 : decode cX6_coverage 15 = .ok (.getfield 44, 3) := by decide +kernel
theorem dX6_coverage_18 : decode cX6_coverage 18 = .ok (.aload_n 3, 1) := by decide +kernel
theorem dX6_coverage_19 : decode cX6_coverage 19 = .ok (.getfield 67, 3) := by decide +kernel
theorem dX6_coverage_22 : decode cX6_coverage 22 = .ok (.invokevirtual 156, 3) := by decide +kernel
theorem dX6_coverage_25 : decode cX6_coverage 25 = .ok (.aload_n 0, 1) := by decide +kernel
theorem dX6_coverage_26 : decode cX6_coverage 26 = .ok (.getfield 44, 3) := by decide +kernel
theorem dX6_coverage_29 : decode cX6_coverage 29 = .ok (.getfield 161, 3) := by decide +kernel
theorem dX6_coverage_32 : decode cX6_coverage 32 = .ok (.iload_n 2, 1) := by decide +kernel
theorem dX6_coverage_33 : decode cX6_coverage 33 = .ok (.invokestatic 170, 3) := by decide +kernel
theorem dX6_coverage_36 : decode cX6_coverage 36 = .ok (.aload_n 3, 1) := by decide +kernel
theorem dX6_coverage_37 : decode cX6_coverage 37 = .ok (.getfield 109, 3) := by decide +kernel
theorem dX6_coverage_40 : decode cX6_coverage 40 = .ok (.iload_n 2, 1) := by decide +kernel
theorem dX6_coverage_41 : decode cX6_coverage 41 = .ok (.invokestatic 170, 3) := by decide +kernel
theorem dX6_coverage_44 : decode cX6_coverage 44 = .ok (.iadd, 1) := by decide +kernel
theorem dX6_coverage_45 : decode cX6_coverage 45 = .ok (.ireturn, 1) := by decide +kernel
theorem dX6_overlap_0 : decode cX6_overlap 0 = .ok (.aload_n 0, 1) := by decide +kernel
theorem dX6_overlap_1 : decode cX6_overlap 1 = .ok (.getfield 37, 3) := by decide +kernel
theorem dX6_overlap_4 : decode cX6_overlap 4 = .ok (.aload_n 0, 1) := by decide +kernel
theorem dX6_overlap_5 : decode cX6_overlap 5 = .ok (.iload_n 1, 1) := by decide +kernel
theorem dX6_overlap_6 : decode cX6_overlap 6 = .ok (.invokevirtual 60, 3) := by decide +kernel
theorem dX6_overlap_9 : decode cX6_overlap 9 = .ok (.invokevirtual 173, 3) := by decide +kernel
theorem dX6_overlap_12 : decode cX6_overlap 12 = .ok (.aload_n 0, 1) := by decide +kernel
theorem dX6_overlap_13 : decode cX6_overlap 13 = .ok (.getfield 37, 3) := by decide +kernel
theorem dX6_overlap_16 : decode cX6_overlap 16 = .ok (.getfield 174, 3) := by decide +kernel
theorem dX6_overlap_19 : decode cX6_overlap 19 = .ok (.ireturn, 1) := by decide +kernel
theorem dX6_workedOn_0 : decode cX6_workedOn 0 = .ok (.aload_n 0, 1) := by decide +kernel
theorem dX6_workedOn_1 : decode cX6_workedOn 1 = .ok (.iload_n 1, 1) := by decide +kernel
theorem dX6_workedOn_2 : decode cX6_workedOn 2 = .ok (.invokevirtual 60, 3) := by decide +kernel
theorem dX6_workedOn_5 : decode cX6_workedOn 5 = .ok (.astore_n 3, 1) := by decide +kernel
theorem dX6_workedOn_6 : decode cX6_workedOn 6 = .ok (.iload_n 2, 1) := by decide +kernel
theorem dX6_workedOn_7 : decode cX6_workedOn 7 = .ok (.iconst 0, 1) := by decide +kernel
theorem dX6_workedOn_8 : decode cX6_workedOn 8 = .ok (.bipush 6, 2) := by decide +kernel
theorem dX6_workedOn_10 : decode cX6_workedOn 10 = .ok (.invokestatic 46, 3) := by decide +kernel
theorem dX6_workedOn_13 : decode cX6_workedOn 13 = .ok (.aload_n 0, 1) := by decide +kernel
theorem dX6_workedOn_14 : decode cX6_workedOn 14 = .ok (.getfield 37, 3) := by decide +kernel
theorem dX6_workedOn_17 : decode cX6_workedOn 17 = .ok (.aload_n 3, 1) := by decide +kernel
theorem dX6_workedOn_18 : decode cX6_workedOn 18 = .ok (.invokevirtual 173, 3) := by decide +kernel
theorem dX6_workedOn_21 : decode cX6_workedOn 21 = .ok (.aload_n 0, 1) := by decide +kernel
theorem dX6_workedOn_22 : decode cX6_workedOn 22 = .ok (.getfield 37, 3) := by decide +kernel
theorem dX6_workedOn_25 : decode cX6_workedOn 25 = .ok (.getfield 177, 3) := by decide +kernel
theorem dX6_workedOn_28 : decode cX6_workedOn 28 = .ok (.iload_n 2, 1) := by decide +kernel
theorem dX6_workedOn_29 : decode cX6_workedOn 29 = .ok (.invokestatic 180, 3) := by decide +kernel
theorem dX6_workedOn_32 : decode cX6_workedOn 32 = .ok (.ireturn, 1) := by decide +kernel
theorem dX6_stretches_0 : decode cX6_stretches 0 = .ok (.aload_n 0, 1) := by decide +kernel
theorem dX6_stretches_1 : decode cX6_stretches 1 = .ok (.getfield 37, 3) := by decide +kernel
theorem dX6_stretches_4 : decode cX6_stretches 4 = .ok (.aload_n 0, 1) := by decide +kernel
theorem dX6_stretches_5 : decode cX6_stretches 5 = .ok (.iload_n 1, 1) := by decide +kernel
theorem dX6_stretches_6 : decode cX6_stretches 6 = .ok (.invokevirtual 60, 3) := by decide +kernel
theorem dX6_stretches_9 : decode cX6_stretches 9 = .ok (.invokevirtual 173, 3) := by decide +kernel
theorem dX6_stretches_12 : decode cX6_stretches 12 = .ok (.aload_n 0, 1) := by decide +kernel
theorem dX6_stretches_13 : decode cX6_stretches 13 = .ok (.getfield 37, 3) := by decide +kernel
theorem dX6_stretches_16 : decode cX6_stretches 16 = .ok (.getfield 177, 3) := by decide +kernel
theorem dX6_stretches_19 : decode cX6_stretches 19 = .ok (.invokevirtual 93, 3) := by decide +kernel
theorem dX6_stretches_22 : decode cX6_stretches 22 = .ok (.ireturn, 1) := by decide +kernel
theorem dX6_longestStretch_0 : decode cX6_longestStretch 0 = .ok (.aload_n 0, 1) := by decide +kernel
theorem dX6_longestStretch_1 : decode cX6_longestStretch 1 = .ok (.getfield 37, 3) := by decide +kernel
theorem dX6_longestStretch_4 : decode cX6_longestStretch 4 = .ok (.aload_n 0, 1) := by decide +kernel
theorem dX6_longestStretch_5 : decode cX6_longestStretch 5 = .ok (.iload_n 1, 1) := by decide +kernel
theorem dX6_longestStretch_6 : decode cX6_longestStretch 6 = .ok (.invokevirtual 60, 3) := by decide +kernel
theorem dX6_longestStretch_9 : decode cX6_longestStretch 9 = .ok (.invokevirtual 173, 3) := by decide +kernel
theorem dX6_longestStretch_12 : decode cX6_longestStretch 12 = .ok (.aload_n 0, 1) := by decide +kernel
theorem dX6_longestStretch_13 : decode cX6_longestStretch 13 = .ok (.getfield 37, 3) := by decide +kernel
theorem dX6_longestStretch_16 : decode cX6_longestStretch 16 = .ok (.getfield 177, 3) := by decide +kernel
theorem dX6_longestStretch_19 : decode cX6_longestStretch 19 = .ok (.invokestatic 183, 3) := by decide +kernel
theorem dX6_longestStretch_22 : decode cX6_longestStretch 22 = .ok (.ireturn, 1) := by decide +kernel
theorem dX6_category_0 : decode cX6_category 0 = .ok (.aload_n 0, 1) := by decide +kernel
theorem dX6_category_1 : decode cX6_category 1 = .ok (.iload_n 1, 1) := by decide +kernel
theorem dX6_category_2 : decode cX6_category 2 = .ok (.invokevirtual 60, 3) := by decide +kernel
theorem dX6_category_5 : decode cX6_category 5 = .ok (.astore_n 3, 1) := by decide +kernel
theorem dX6_category_6 : decode cX6_category 6 = .ok (.iload_n 2, 1) := by decide +kernel
theorem dX6_category_7 : decode cX6_category 7 = .ok (.iconst 0, 1) := by decide +kernel
theorem dX6_category_8 : decode cX6_category 8 = .ok (.sipush 10079, 3) := by decide +kernel
theorem dX6_category_11 : decode cX6_category 11 = .ok (.invokestatic 46, 3) := by decide +kernel
theorem dX6_category_14 : decode cX6_category 14 = .ok (.aload_n 0, 1) := by decide +kernel
theorem dX6_category_15 : decode cX6_category 15 = .ok (.getfield 29, 3) := by decide +kernel
theorem dX6_category_18 : decode cX6_category 18 = .ok (.aload_n 3, 1) := by decide +kernel
theorem dX6_category_19 : decode cX6_category 19 = .ok (.invokevirtual 131, 3) := by decide +kernel
theorem dX6_category_22 : decode cX6_category 22 = .ok (.aload_n 0, 1) := by decide +kernel
theorem dX6_category_23 : decode cX6_category 23 = .ok (.getfield 29, 3) := by decide +kernel
theorem dX6_category_26 : decode cX6_category 26 = .ok (.iload_n 2, 1) := by decide +kernel
theorem dX6_category_27 : decode cX6_category 27 = .ok (.invokevirtual 186, 3) := by decide +kernel
theorem dX6_category_30 : decode cX6_category 30 = .ok (.ireturn, 1) := by decide +kernel
theorem dX6_minutes_0 : decode cX6_minutes 0 = .ok (.aload_n 0, 1) := by decide +kernel
theorem dX6_minutes_1 : decode cX6_minutes 1 = .ok (.iload_n 1, 1) := by decide +kernel
theorem dX6_minutes_2 : decode cX6_minutes 2 = .ok (.invokevirtual 60, 3) := by decide +kernel
theorem dX6_minutes_5 : decode cX6_minutes 5 = .ok (.astore 4, 2) := by decide +kernel
theorem dX6_minutes_7 : decode cX6_minutes 7 = .ok (.iload_n 2, 1) := by decide +kernel
theorem dX6_minutes_8 : decode cX6_minutes 8 = .ok (.iconst 0, 1) := by decide +kernel
theorem dX6_minutes_9 : decode cX6_minutes 9 = .ok (.bipush 6, 2) := by decide +kernel
theorem dX6_minutes_11 : decode cX6_minutes 11 = .ok (.invokestatic 46, 3) := by decide +kernel
theorem dX6_minutes_14 : decode cX6_minutes 14 = .ok (.iload_n 3, 1) := by decide +kernel
theorem dX6_minutes_15 : decode cX6_minutes 15 = .ok (.iconst 0, 1) := by decide +kernel
theorem dX6_minutes_16 : decode cX6_minutes 16 = .ok (.iconst 2, 1) := by decide +kernel
theorem dX6_minutes_17 : decode cX6_minutes 17 = .ok (.invokestatic 46, 3) := by decide +kernel
theorem dX6_minutes_20 : decode cX6_minutes 20 = .ok (.aload_n 0, 1) := by decide +kernel
theorem dX6_minutes_21 : decode cX6_minutes 21 = .ok (.getfield 29, 3) := by decide +kernel
theorem dX6_minutes_24 : decode cX6_minutes 24 = .ok (.aload 4, 2) := by decide +kernel
theorem dX6_minutes_26 : decode cX6_minutes 26 = .ok (.invokevirtual 131, 3) := by decide +kernel
theorem dX6_minutes_29 : decode cX6_minutes 29 = .ok (.aload_n 0, 1) := by decide +kernel
theorem dX6_minutes_30 : decode cX6_minutes 30 = .ok (.getfield 29, 3) := by decide +kernel
theorem dX6_minutes_33 : decode cX6_minutes 33 = .ok (.iload_n 2, 1) := by decide +kernel
theorem dX6_minutes_34 : decode cX6_minutes 34 = .ok (.iload_n 3, 1) := by decide +kernel
theorem dX6_minutes_35 : decode cX6_minutes 35 = .ok (.invokevirtual 189, 3) := by decide +kernel
theorem dX6_minutes_38 : decode cX6_minutes 38 = .ok (.ireturn, 1) := by decide +kernel
theorem dX6_quarters_0 : decode cX6_quarters 0 = .ok (.aload_n 0, 1) := by decide +kernel
theorem dX6_quarters_1 : decode cX6_quarters 1 = .ok (.iload_n 1, 1) := by decide +kernel
theorem dX6_quarters_2 : decode cX6_quarters 2 = .ok (.invokevirtual 60, 3) := by decide +kernel
theorem dX6_quarters_5 : decode cX6_quarters 5 = .ok (.astore 4, 2) := by decide +kernel
theorem dX6_quarters_7 : decode cX6_quarters 7 = .ok (.iload_n 2, 1) := by decide +kernel
theorem dX6_quarters_8 : decode cX6_quarters 8 = .ok (.iconst 0, 1) := by decide +kernel
theorem dX6_quarters_9 : decode cX6_quarters 9 = .ok (.bipush 6, 2) := by decide +kernel
theorem dX6_quarters_11 : decode cX6_quarters 11 = .ok (.invokestatic 46, 3) := by decide +kernel
theorem dX6_quarters_14 : decode cX6_quarters 14 = .ok (.iload_n 3, 1) := by decide +kernel
theorem dX6_quarters_15 : decode cX6_quarters 15 = .ok (.iconst 0, 1) := by decide +kernel
theorem dX6_quarters_16 : decode cX6_quarters 16 = .ok (.iconst 2, 1) := by decide +kernel
theorem dX6_quarters_17 : decode cX6_quarters 17 = .ok (.invokestatic 46, 3) := by decide +kernel
theorem dX6_quarters_20 : decode cX6_quarters 20 = .ok (.aload_n 0, 1) := by decide +kernel
theorem dX6_quarters_21 : decode cX6_quarters 21 = .ok (.getfield 29, 3) := by decide +kernel
theorem dX6_quarters_24 : decode cX6_quarters 24 = .ok (.aload 4, 2) := by decide +kernel
theorem dX6_quarters_26 : decode cX6_quarters 26 = .ok (.invokevirtual 131, 3) := by decide +kernel
theorem dX6_quarters_29 : decode cX6_quarters 29 = .ok (.aload_n 0, 1) := by decide +kernel
theorem dX6_quarters_30 : decode cX6_quarters 30 = .ok (.getfield 29, 3) := by decide +kernel
theorem dX6_quarters_33 : decode cX6_quarters 33 = .ok (.iload_n 2, 1) := by decide +kernel
theorem dX6_quarters_34 : decode cX6_quarters 34 = .ok (.iload_n 3, 1) := by decide +kernel
theorem dX6_quarters_35 : decode cX6_quarters 35 = .ok (.invokevirtual 192, 3) := by decide +kernel
theorem dX6_quarters_38 : decode cX6_quarters 38 = .ok (.ireturn, 1) := by decide +kernel
theorem dX6_premiumPay_0 : decode cX6_premiumPay 0 = .ok (.aload_n 0, 1) := by decide +kernel
theorem dX6_premiumPay_1 : decode cX6_premiumPay 1 = .ok (.getfield 29, 3) := by decide +kernel
theorem dX6_premiumPay_4 : decode cX6_premiumPay 4 = .ok (.aload_n 0, 1) := by decide +kernel
theorem dX6_premiumPay_5 : decode cX6_premiumPay 5 = .ok (.iload_n 1, 1) := by decide +kernel
theorem dX6_premiumPay_6 : decode cX6_premiumPay 6 = .ok (.invokevirtual 60, 3) := by decide +kernel
theorem dX6_premiumPay_9 : decode cX6_premiumPay 9 = .ok (.invokevirtual 131, 3) := by decide +kernel
theorem dX6_premiumPay_12 : decode cX6_premiumPay 12 = .ok (.aload_n 0, 1) := by decide +kernel
theorem dX6_premiumPay_13 : decode cX6_premiumPay 13 = .ok (.getfield 22, 3) := by decide +kernel
theorem dX6_premiumPay_16 : decode cX6_premiumPay 16 = .ok (.aload_n 0, 1) := by decide +kernel
theorem dX6_premiumPay_17 : decode cX6_premiumPay 17 = .ok (.getfield 29, 3) := by decide +kernel
theorem dX6_premiumPay_20 : decode cX6_premiumPay 20 = .ok (.getfield 139, 3) := by decide +kernel
theorem dX6_premiumPay_23 : decode cX6_premiumPay 23 = .ok (.invokevirtual 142, 3) := by decide +kernel
theorem dX6_premiumPay_26 : decode cX6_premiumPay 26 = .ok (.ireturn, 1) := by decide +kernel
theorem dX6_pay_0 : decode cX6_pay 0 = .ok (.aload_n 0, 1) := by decide +kernel
theorem dX6_pay_1 : decode cX6_pay 1 = .ok (.iload_n 1, 1) := by decide +kernel
theorem dX6_pay_2 : decode cX6_pay 2 = .ok (.invokevirtual 60, 3) := by decide +kernel
theorem dX6_pay_5 : decode cX6_pay 5 = .ok (.astore_n 2, 1) := by decide +kernel
theorem dX6_pay_6 : decode cX6_pay 6 = .ok (.aload_n 0, 1) := by decide +kernel
theorem dX6_pay_7 : decode cX6_pay 7 = .ok (.getfield 29, 3) := by decide +kernel
theorem dX6_pay_10 : decode cX6_pay 10 = .ok (.aload_n 2, 1) := by decide +kernel
theorem dX6_pay_11 : decode cX6_pay 11 = .ok (.invokevirtual 131, 3) := by decide +kernel
theorem dX6_pay_14 : decode cX6_pay 14 = .ok (.aload_n 0, 1) := by decide +kernel
theorem dX6_pay_15 : decode cX6_pay 15 = .ok (.getfield 29, 3) := by decide +kernel
theorem dX6_pay_18 : decode cX6_pay 18 = .ok (.aload_n 2, 1) := by decide +kernel
theorem dX6_pay_19 : decode cX6_pay 19 = .ok (.getfield 64, 3) := by decide +kernel
theorem dX6_pay_22 : decode cX6_pay 22 = .ok (.invokevirtual 135, 3) := by decide +kernel
theorem dX6_pay_25 : decode cX6_pay 25 = .ok (.aload_n 0, 1) := by decide +kernel
theorem dX6_pay_26 : decode cX6_pay 26 = .ok (.getfield 22, 3) := by decide +kernel
theorem dX6_pay_29 : decode cX6_pay 29 = .ok (.aload_n 0, 1) := by decide +kernel
theorem dX6_pay_30 : decode cX6_pay 30 = .ok (.getfield 29, 3) := by decide +kernel
theorem dX6_pay_33 : decode cX6_pay 33 = .ok (.getfield 139, 3) := by decide +kernel
theorem dX6_pay_36 : decode cX6_pay 36 = .ok (.invokevirtual 142, 3) := by decide +kernel
theorem dX6_pay_39 : decode cX6_pay 39 = .ok (.iadd, 1) := by decide +kernel
theorem dX6_pay_40 : decode cX6_pay 40 = .ok (.ireturn, 1) := by decide +kernel
theorem dX6_find_0 : decode cX6_find 0 = .ok (.iload_n 1, 1) := by decide +kernel
theorem dX6_find_1 : decode cX6_find 1 = .ok (.ifCond .lt 20, 3) := by decide +kernel
theorem dX6_find_4 : decode cX6_find 4 = .ok (.iload_n 1, 1) := by decide +kernel
theorem dX6_find_5 : decode cX6_find 5 = .ok (.aload_n 0, 1) := by decide +kernel
theorem dX6_find_6 : decode cX6_find 6 = .ok (.getfield 15, 3) := by decide +kernel
theorem dX6_find_9 : decode cX6_find 9 = .ok (.if_icmp .ge 12, 3) := by decide +kernel
theorem dX6_find_12 : decode cX6_find 12 = .ok (.iload_n 1, 1) := by decide +kernel
theorem dX6_find_13 : decode cX6_find 13 = .ok (.aload_n 0, 1) := by decide +kernel
theorem dX6_find_14 : decode cX6_find 14 = .ok (.getfield 11, 3) := by decide +kernel
theorem dX6_find_17 : decode cX6_find 17 = .ok (.arraylength, 1) := by decide +kernel
theorem dX6_find_18 : decode cX6_find 18 = .ok (.if_icmp .lt 13, 3) := by decide +kernel
theorem dX6_find_21 : decode cX6_find 21 = .ok (.new 195, 3) := by decide +kernel
theorem dX6_find_24 : decode cX6_find 24 = .ok (.dup, 1) := by decide +kernel
theorem dX6_find_25 : decode cX6_find 25 = .ok (.ldc 197, 2) := by decide +kernel
theorem dX6_find_27 : decode cX6_find 27 = .ok (.invokespecial 199, 3) := by decide +kernel
theorem dX6_find_30 : decode cX6_find 30 = .ok (.athrow, 1) := by decide +kernel
theorem dX6_find_31 : decode cX6_find 31 = .ok (.aload_n 0, 1) := by decide +kernel
theorem dX6_find_32 : decode cX6_find 32 = .ok (.getfield 11, 3) := by decide +kernel
theorem dX6_find_35 : decode cX6_find 35 = .ok (.iload_n 1, 1) := by decide +kernel
theorem dX6_find_36 : decode cX6_find 36 = .ok (.aaload, 1) := by decide +kernel
theorem dX6_find_37 : decode cX6_find 37 = .ok (.astore_n 2, 1) := by decide +kernel
theorem dX6_find_38 : decode cX6_find 38 = .ok (.aload_n 2, 1) := by decide +kernel
theorem dX6_find_39 : decode cX6_find 39 = .ok (.ifnonnull 13, 3) := by decide +kernel
theorem dX6_find_42 : decode cX6_find 42 = .ok (.new 195, 3) := by decide +kernel
theorem dX6_find_45 : decode cX6_find 45 = .ok (.dup, 1) := by decide +kernel
theorem dX6_find_46 : decode cX6_find 46 = .ok (.ldc 197, 2) := by decide +kernel
theorem dX6_find_48 : decode cX6_find 48 = .ok (.invokespecial 199, 3) := by decide +kernel
theorem dX6_find_51 : decode cX6_find 51 = .ok (.athrow, 1) := by decide +kernel
theorem dX6_find_52 : decode cX6_find 52 = .ok (.aload_n 2, 1) := by decide +kernel
theorem dX6_find_53 : decode cX6_find 53 = .ok (.areturn, 1) := by decide +kernel
theorem dX6_requireWithin_0 : decode cX6_requireWithin 0 = .ok (.iload_n 0, 1) := by decide +kernel
theorem dX6_requireWithin_1 : decode cX6_requireWithin 1 = .ok (.iload_n 1, 1) := by decide +kernel
theorem dX6_requireWithin_2 : decode cX6_requireWithin 2 = .ok (.if_icmp .lt 8, 3) := by decide +kernel
theorem dX6_requireWithin_5 : decode cX6_requireWithin 5 = .ok (.iload_n 0, 1) := by decide +kernel
theorem dX6_requireWithin_6 : decode cX6_requireWithin 6 = .ok (.iload_n 2, 1) := by decide +kernel
theorem dX6_requireWithin_7 : decode cX6_requireWithin 7 = .ok (.if_icmp .le 13, 3) := by decide +kernel
theorem dX6_requireWithin_10 : decode cX6_requireWithin 10 = .ok (.new 200, 3) := by decide +kernel
theorem dX6_requireWithin_13 : decode cX6_requireWithin 13 = .ok (.dup, 1) := by decide +kernel
theorem dX6_requireWithin_14 : decode cX6_requireWithin 14 = .ok (.ldc 202, 2) := by decide +kernel
theorem dX6_requireWithin_16 : decode cX6_requireWithin 16 = .ok (.invokespecial 204, 3) := by decide +kernel
theorem dX6_requireWithin_19 : decode cX6_requireWithin 19 = .ok (.athrow, 1) := by decide +kernel
theorem dX6_requireWithin_20 : decode cX6_requireWithin 20 = .ok (.return_, 1) := by decide +kernel
theorem dX6_requireRoom_0 : decode cX6_requireRoom 0 = .ok (.aload_n 0, 1) := by decide +kernel
theorem dX6_requireRoom_1 : decode cX6_requireRoom 1 = .ok (.invokevirtual 93, 3) := by decide +kernel
theorem dX6_requireRoom_4 : decode cX6_requireRoom 4 = .ok (.iload_n 1, 1) := by decide +kernel
theorem dX6_requireRoom_5 : decode cX6_requireRoom 5 = .ok (.if_icmp .lt 13, 3) := by decide +kernel
theorem dX6_requireRoom_8 : decode cX6_requireRoom 8 = .ok (.new 50, 3) := by decide +kernel
theorem dX6_requireRoom_11 : decode cX6_requireRoom 11 = .ok (.dup, 1) := by decide +kernel
theorem dX6_requireRoom_12 : decode cX6_requireRoom 12 = .ok (.ldc 205, 2) := by decide +kernel
theorem dX6_requireRoom_14 : decode cX6_requireRoom 14 = .ok (.invokespecial 54, 3) := by decide +kernel
theorem dX6_requireRoom_17 : decode cX6_requireRoom 17 = .ok (.athrow, 1) := by decide +kernel
theorem dX6_requireRoom_18 : decode cX6_requireRoom 18 = .ok (.return_, 1) := by decide +kernel
theorem dX6_requireNumber_0 : decode cX6_requireNumber 0 = .ok (.iload_n 1, 1) := by decide +kernel
theorem dX6_requireNumber_1 : decode cX6_requireNumber 1 = .ok (.ifCond .lt 11, 3) := by decide +kernel
theorem dX6_requireNumber_4 : decode cX6_requireNumber 4 = .ok (.iload_n 1, 1) := by decide +kernel
theorem dX6_requireNumber_5 : decode cX6_requireNumber 5 = .ok (.aload_n 0, 1) := by decide +kernel
theorem dX6_requireNumber_6 : decode cX6_requireNumber 6 = .ok (.invokevirtual 93, 3) := by decide +kernel
theorem dX6_requireNumber_9 : decode cX6_requireNumber 9 = .ok (.if_icmp .lt 13, 3) := by decide +kernel
theorem dX6_requireNumber_12 : decode cX6_requireNumber 12 = .ok (.new 195, 3) := by decide +kernel
theorem dX6_requireNumber_15 : decode cX6_requireNumber 15 = .ok (.dup, 1) := by decide +kernel
theorem dX6_requireNumber_16 : decode cX6_requireNumber 16 = .ok (.ldc 207, 2) := by decide +kernel
theorem dX6_requireNumber_18 : decode cX6_requireNumber 18 = .ok (.invokespecial 199, 3) := by decide +kernel
theorem dX6_requireNumber_21 : decode cX6_requireNumber 21 = .ok (.athrow, 1) := by decide +kernel
theorem dX6_requireNumber_22 : decode cX6_requireNumber 22 = .ok (.return_, 1) := by decide +kernel
theorem dX6_addByHand_0 : decode cX6_addByHand 0 = .ok (.iload_n 1, 1) := by decide +kernel
theorem dX6_addByHand_1 : decode cX6_addByHand 1 = .ok (.iconst 0, 1) := by decide +kernel
theorem dX6_addByHand_2 : decode cX6_addByHand 2 = .ok (.sipush 10079, 3) := by decide +kernel
theorem dX6_addByHand_5 : decode cX6_addByHand 5 = .ok (.invokestatic 46, 3) := by decide +kernel
theorem dX6_addByHand_8 : decode cX6_addByHand 8 = .ok (.iload_n 2, 1) := by decide +kernel
theorem dX6_addByHand_9 : decode cX6_addByHand 9 = .ok (.iload_n 1, 1) := by decide +kernel
theorem dX6_addByHand_10 : decode cX6_addByHand 10 = .ok (.iconst 1, 1) := by decide +kernel
theorem dX6_addByHand_11 : decode cX6_addByHand 11 = .ok (.iadd, 1) := by decide +kernel
theorem dX6_addByHand_12 : decode cX6_addByHand 12 = .ok (.sipush 10080, 3) := by decide +kernel
theorem dX6_addByHand_15 : decode cX6_addByHand 15 = .ok (.invokestatic 46, 3) := by decide +kernel
theorem dX6_addByHand_18 : decode cX6_addByHand 18 = .ok (.aload_n 0, 1) := by decide +kernel
theorem dX6_addByHand_19 : decode cX6_addByHand 19 = .ok (.iload_n 3, 1) := by decide +kernel
theorem dX6_addByHand_20 : decode cX6_addByHand 20 = .ok (.invokestatic 71, 3) := by decide +kernel
theorem dX6_addByHand_23 : decode cX6_addByHand 23 = .ok (.aload_n 0, 1) := by decide +kernel
theorem dX6_addByHand_24 : decode cX6_addByHand 24 = .ok (.iload_n 1, 1) := by decide +kernel
theorem dX6_addByHand_25 : decode cX6_addByHand 25 = .ok (.iload_n 2, 1) := by decide +kernel
theorem dX6_addByHand_26 : decode cX6_addByHand 26 = .ok (.invokevirtual 209, 3) := by decide +kernel
theorem dX6_addByHand_29 : decode cX6_addByHand 29 = .ok (.aload_n 0, 1) := by decide +kernel
theorem dX6_addByHand_30 : decode cX6_addByHand 30 = .ok (.invokevirtual 93, 3) := by decide +kernel
theorem dX6_addByHand_33 : decode cX6_addByHand 33 = .ok (.iconst 1, 1) := by decide +kernel
theorem dX6_addByHand_34 : decode cX6_addByHand 34 = .ok (.isub, 1) := by decide +kernel
theorem dX6_addByHand_35 : decode cX6_addByHand 35 = .ok (.ireturn, 1) := by decide +kernel
theorem dX6_removeNumbered_0 : decode cX6_removeNumbered 0 = .ok (.aload_n 0, 1) := by decide +kernel
theorem dX6_removeNumbered_1 : decode cX6_removeNumbered 1 = .ok (.iload_n 1, 1) := by decide +kernel
theorem dX6_removeNumbered_2 : decode cX6_removeNumbered 2 = .ok (.invokestatic 164, 3) := by decide +kernel
theorem dX6_removeNumbered_5 : decode cX6_removeNumbered 5 = .ok (.aload_n 0, 1) := by decide +kernel
theorem dX6_removeNumbered_6 : decode cX6_removeNumbered 6 = .ok (.iload_n 1, 1) := by decide +kernel
theorem dX6_removeNumbered_7 : decode cX6_removeNumbered 7 = .ok (.invokevirtual 106, 3) := by decide +kernel
theorem dX6_removeNumbered_10 : decode cX6_removeNumbered 10 = .ok (.aload_n 0, 1) := by decide +kernel
theorem dX6_removeNumbered_11 : decode cX6_removeNumbered 11 = .ok (.invokevirtual 93, 3) := by decide +kernel
theorem dX6_removeNumbered_14 : decode cX6_removeNumbered 14 = .ok (.ireturn, 1) := by decide +kernel
theorem dX6_placeOfPunch_0 : decode cX6_placeOfPunch 0 = .ok (.iconst 0, 1) := by decide +kernel
theorem dX6_placeOfPunch_1 : decode cX6_placeOfPunch 1 = .ok (.istore_n 2, 1) := by decide +kernel
theorem dX6_placeOfPunch_2 : decode cX6_placeOfPunch 2 = .ok (.iconst 0, 1) := by decide +kernel
theorem dX6_placeOfPunch_3 : decode cX6_placeOfPunch 3 = .ok (.istore_n 3, 1) := by decide +kernel
theorem dX6_placeOfPunch_4 : decode cX6_placeOfPunch 4 = .ok (.iload_n 3, 1) := by decide +kernel
theorem dX6_placeOfPunch_5 : decode cX6_placeOfPunch 5 = .ok (.aload_n 0, 1) := by decide +kernel
theorem dX6_placeOfPunch_6 : decode cX6_placeOfPunch 6 = .ok (.invokevirtual 93, 3) := by decide +kernel
theorem dX6_placeOfPunch_9 : decode cX6_placeOfPunch 9 = .ok (.if_icmp .ge 23, 3) := by decide +kernel
theorem dX6_placeOfPunch_12 : decode cX6_placeOfPunch 12 = .ok (.aload_n 0, 1) := by decide +kernel
theorem dX6_placeOfPunch_13 : decode cX6_placeOfPunch 13 = .ok (.iload_n 3, 1) := by decide +kernel
theorem dX6_placeOfPunch_14 : decode cX6_placeOfPunch 14 = .ok (.iconst 0, 1) := by decide +kernel
theorem dX6_placeOfPunch_15 : decode cX6_placeOfPunch 15 = .ok (.invokevirtual 102, 3) := by decide +kernel
theorem dX6_placeOfPunch_18 : decode cX6_placeOfPunch 18 = .ok (.iload_n 1, 1) := by decide +kernel
theorem dX6_placeOfPunch_19 : decode cX6_placeOfPunch 19 = .ok (.if_icmp .ge 7, 3) := by decide +kernel
theorem dX6_placeOfPunch_22 : decode cX6_placeOfPunch 22 = .ok (.iload_n 3, 1) := by decide +kernel
theorem dX6_placeOfPunch_23 : decode cX6_placeOfPunch 23 = .ok (.iconst 1, 1) := by decide +kernel
theorem dX6_placeOfPunch_24 : decode cX6_placeOfPunch 24 = .ok (.iadd, 1) := by decide +kernel
theorem dX6_placeOfPunch_25 : decode cX6_placeOfPunch 25 = .ok (.istore_n 2, 1) := by decide +kernel
theorem dX6_placeOfPunch_26 : decode cX6_placeOfPunch 26 = .ok (.iinc 3 1, 3) := by decide +kernel
theorem dX6_placeOfPunch_29 : decode cX6_placeOfPunch 29 = .ok (.goto (-25), 3) := by decide +kernel
theorem dX6_placeOfPunch_32 : decode cX6_placeOfPunch 32 = .ok (.iload_n 2, 1) := by decide +kernel
theorem dX6_placeOfPunch_33 : decode cX6_placeOfPunch 33 = .ok (.ireturn, 1) := by decide +kernel
theorem dX6_isPunchAt_0 : decode cX6_isPunchAt 0 = .ok (.iload_n 1, 1) := by decide +kernel
theorem dX6_isPunchAt_1 : decode cX6_isPunchAt 1 = .ok (.aload_n 0, 1) := by decide +kernel
theorem dX6_isPunchAt_2 : decode cX6_isPunchAt 2 = .ok (.invokevirtual 93, 3) := by decide +kernel
theorem dX6_isPunchAt_5 : decode cX6_isPunchAt 5 = .ok (.if_icmp .ge 17, 3) := by decide +kernel
theorem dX6_isPunchAt_8 : decode cX6_isPunchAt 8 = .ok (.aload_n 0, 1) := by decide +kernel
theorem dX6_isPunchAt_9 : decode cX6_isPunchAt 9 = .ok (.iload_n 1, 1) := by decide +kernel
theorem dX6_isPunchAt_10 : decode cX6_isPunchAt 10 = .ok (.iconst 0, 1) := by decide +kernel
theorem dX6_isPunchAt_11 : decode cX6_isPunchAt 11 = .ok (.invokevirtual 102, 3) := by decide +kernel
theorem dX6_isPunchAt_14 : decode cX6_isPunchAt 14 = .ok (.iload_n 2, 1) := by decide +kernel
theorem dX6_isPunchAt_15 : decode cX6_isPunchAt 15 = .ok (.if_icmp .ne 7, 3) := by decide +kernel
theorem dX6_isPunchAt_18 : decode cX6_isPunchAt 18 = .ok (.iconst 1, 1) := by decide +kernel
theorem dX6_isPunchAt_19 : decode cX6_isPunchAt 19 = .ok (.goto 4, 3) := by decide +kernel
theorem dX6_isPunchAt_22 : decode cX6_isPunchAt 22 = .ok (.iconst 0, 1) := by decide +kernel
theorem dX6_isPunchAt_23 : decode cX6_isPunchAt 23 = .ok (.ireturn, 1) := by decide +kernel
theorem dX6_countContaining_0 : decode cX6_countContaining 0 = .ok (.iconst 0, 1) := by decide +kernel
theorem dX6_countContaining_1 : decode cX6_countContaining 1 = .ok (.istore_n 2, 1) := by decide +kernel
theorem dX6_countContaining_2 : decode cX6_countContaining 2 = .ok (.iconst 0, 1) := by decide +kernel
theorem dX6_countContaining_3 : decode cX6_countContaining 3 = .ok (.istore_n 3, 1) := by decide +kernel
theorem dX6_countContaining_4 : decode cX6_countContaining 4 = .ok (.iload_n 3, 1) := by decide +kernel
theorem dX6_countContaining_5 : decode cX6_countContaining 5 = .ok (.aload_n 0, 1) := by decide +kernel
theorem dX6_countContaining_6 : decode cX6_countContaining 6 = .ok (.invokevirtual 93, 3) := by decide +kernel
theorem dX6_countContaining_9 : decode cX6_countContaining 9 = .ok (.if_icmp .ge 32, 3) := by decide +kernel
theorem dX6_countContaining_12 : decode cX6_countContaining 12 = .ok (.aload_n 0, 1) := by decide +kernel
theorem dX6_countContaining_13 : decode cX6_countContaining 13 = .ok (.iload_n 3, 1) := by decide +kernel
theorem dX6_countContaining_14 : decode cX6_countContaining 14 = .ok (.iconst 0, 1) := by decide +kernel
theorem dX6_countContaining_15 : decode cX6_countContaining 15 = .ok (.invokevirtual 102, 3) := by decide +kernel
theorem dX6_countContaining_18 : decode cX6_countContaining 18 = .ok (.iload_n 1, 1) := by decide +kernel
theorem dX6_countContaining_19 : decode cX6_countContaining 19 = .ok (.if_icmp .gt 16, 3) := by decide +kernel
theorem dX6_countContaining_22 : decode cX6_countContaining 22 = .ok (.iload_n 1, 1) := by decide +kernel
theorem dX6_countContaining_23 : decode cX6_countContaining 23 = .ok (.aload_n 0, 1) := by decide +kernel
theorem dX6_countContaining_24 : decode cX6_countContaining 24 = .ok (.iload_n 3, 1) := by decide +kernel
theorem dX6_countContaining_25 : decode cX6_countContaining 25 = .ok (.iconst 1, 1) := by decide +kernel
theorem dX6_countContaining_26 : decode cX6_countContaining 26 = .ok (.invokevirtual 102, 3) := by decide +kernel
theorem dX6_countContaining_29 : decode cX6_countContaining 29 = .ok (.if_icmp .ge 6, 3) := by decide +kernel
theorem dX6_countContaining_32 : decode cX6_countContaining 32 = .ok (.iinc 2 1, 3) := by decide +kernel
theorem dX6_countContaining_35 : decode cX6_countContaining 35 = .ok (.iinc 3 1, 3) := by decide +kernel
theorem dX6_countContaining_38 : decode cX6_countContaining 38 = .ok (.goto (-34), 3) := by decide +kernel
theorem dX6_countContaining_41 : decode cX6_countContaining 41 = .ok (.iload_n 2, 1) := by decide +kernel
theorem dX6_countContaining_42 : decode cX6_countContaining 42 = .ok (.ireturn, 1) := by decide +kernel
theorem dX6_minutesOnDay_0 : decode cX6_minutesOnDay 0 = .ok (.iconst 0, 1) := by decide +kernel
theorem dX6_minutesOnDay_1 : decode cX6_minutesOnDay 1 = .ok (.istore_n 2, 1) := by decide +kernel
theorem dX6_minutesOnDay_2 : decode cX6_minutesOnDay 2 = .ok (.iconst 0, 1) := by decide +kernel
theorem dX6_minutesOnDay_3 : decode cX6_minutesOnDay 3 = .ok (.istore_n 3, 1) := by decide +kernel
theorem dX6_minutesOnDay_4 : decode cX6_minutesOnDay 4 = .ok (.iload_n 3, 1) := by decide +kernel
theorem dX6_minutesOnDay_5 : decode cX6_minutesOnDay 5 = .ok (.aload_n 0, 1) := by decide +kernel
theorem dX6_minutesOnDay_6 : decode cX6_minutesOnDay 6 = .ok (.invokevirtual 93, 3) := by decide +kernel
theorem dX6_minutesOnDay_9 : decode cX6_minutesOnDay 9 = .ok (.if_icmp .ge 55, 3) := by decide +kernel
theorem dX6_minutesOnDay_12 : decode cX6_minutesOnDay 12 = .ok (.aload_n 0, 1) := by decide +kernel
theorem dX6_minutesOnDay_13 : decode cX6_minutesOnDay 13 = .ok (.iload_n 3, 1) := by decide +kernel
theorem dX6_minutesOnDay_14 : decode cX6_minutesOnDay 14 = .ok (.iconst 0, 1) := by decide +kernel
theorem dX6_minutesOnDay_15 : decode cX6_minutesOnDay 15 = .ok (.invokevirtual 102, 3) := by decide +kernel
theorem dX6_minutesOnDay_18 : decode cX6_minutesOnDay 18 = .ok (.iload_n 1, 1) := by decide +kernel
theorem dX6_minutesOnDay_19 : decode cX6_minutesOnDay 19 = .ok (.sipush 1440, 3) := by decide +kernel
theorem dX6_minutesOnDay_22 : decode cX6_minutesOnDay 22 = .ok (.imul, 1) := by decide +kernel
theorem dX6_minutesOnDay_23 : decode cX6_minutesOnDay 23 = .ok (.invokestatic 213, 3) := by decide +kernel
theorem dX6_minutesOnDay_26 : decode cX6_minutesOnDay 26 = .ok (.istore 4, 2) := by decide +kernel
theorem dX6_minutesOnDay_28 : decode cX6_minutesOnDay 28 = .ok (.aload_n 0, 1) := by decide +kernel
theorem dX6_minutesOnDay_29 : decode cX6_minutesOnDay 29 = .ok (.iload_n 3, 1) := by decide +kernel
theorem dX6_minutesOnDay_30 : decode cX6_minutesOnDay 30 = .ok (.iconst 1, 1) := by decide +kernel
theorem dX6_minutesOnDay_31 : decode cX6_minutesOnDay 31 = .ok (.invokevirtual 102, 3) := by decide +kernel
theorem dX6_minutesOnDay_34 : decode cX6_minutesOnDay 34 = .ok (.iload_n 1, 1) := by decide +kernel
theorem dX6_minutesOnDay_35 : decode cX6_minutesOnDay 35 = .ok (.iconst 1, 1) := by decide +kernel
theorem dX6_minutesOnDay_36 : decode cX6_minutesOnDay 36 = .ok (.iadd, 1) := by decide +kernel
theorem dX6_minutesOnDay_37 : decode cX6_minutesOnDay 37 = .ok (.sipush 1440, 3) := by decide +kernel
theorem dX6_minutesOnDay_40 : decode cX6_minutesOnDay 40 = .ok (.imul, 1) := by decide +kernel
theorem dX6_minutesOnDay_41 : decode cX6_minutesOnDay 41 = .ok (.invokestatic 218, 3) := by decide +kernel
theorem dX6_minutesOnDay_44 : decode cX6_minutesOnDay 44 = .ok (.istore 5, 2) := by decide +kernel
theorem dX6_minutesOnDay_46 : decode cX6_minutesOnDay 46 = .ok (.iload_n 2, 1) := by decide +kernel
theorem dX6_minutesOnDay_47 : decode cX6_minutesOnDay 47 = .ok (.iload 5, 2) := by decide +kernel
theorem dX6_minutesOnDay_49 : decode cX6_minutesOnDay 49 = .ok (.iload 4, 2) := by decide +kernel
theorem dX6_minutesOnDay_51 : decode cX6_minutesOnDay 51 = .ok (.isub, 1) := by decide +kernel
theorem dX6_minutesOnDay_52 : decode cX6_minutesOnDay 52 = .ok (.iconst 0, 1) := by decide +kernel
theorem dX6_minutesOnDay_53 : decode cX6_minutesOnDay 53 = .ok (.invokestatic 213, 3) := by decide +kernel
theorem dX6_minutesOnDay_56 : decode cX6_minutesOnDay 56 = .ok (.iadd, 1) := by decide +kernel
theorem dX6_minutesOnDay_57 : decode cX6_minutesOnDay 57 = .ok (.istore_n 2, 1) := by decide +kernel
theorem dX6_minutesOnDay_58 : decode cX6_minutesOnDay 58 = .ok (.iinc 3 1, 3) := by decide +kernel
theorem dX6_minutesOnDay_61 : decode cX6_minutesOnDay 61 = .ok (.goto (-57), 3) := by decide +kernel
theorem dX6_minutesOnDay_64 : decode cX6_minutesOnDay 64 = .ok (.iload_n 2, 1) := by decide +kernel
theorem dX6_minutesOnDay_65 : decode cX6_minutesOnDay 65 = .ok (.ireturn, 1) := by decide +kernel
theorem dX6_longest_0 : decode cX6_longest 0 = .ok (.iconst 0, 1) := by decide +kernel
theorem dX6_longest_1 : decode cX6_longest 1 = .ok (.istore_n 1, 1) := by decide +kernel
theorem dX6_longest_2 : decode cX6_longest 2 = .ok (.iconst 0, 1) := by decide +kernel
theorem dX6_longest_3 : decode cX6_longest 3 = .ok (.istore_n 2, 1) := by decide +kernel
theorem dX6_longest_4 : decode cX6_longest 4 = .ok (.iload_n 2, 1) := by decide +kernel
theorem dX6_longest_5 : decode cX6_longest 5 = .ok (.aload_n 0, 1) := by decide +kernel
theorem dX6_longest_6 : decode cX6_longest 6 = .ok (.invokevirtual 93, 3) := by decide +kernel
theorem dX6_longest_9 : decode cX6_longest 9 = .ok (.if_icmp .ge 27, 3) := by decide +kernel
theorem dX6_longest_12 : decode cX6_longest 12 = .ok (.iload_n 1, 1) := by decide +kernel
theorem dX6_longest_13 : decode cX6_longest 13 = .ok (.aload_n 0, 1) := by decide +kernel
theorem dX6_longest_14 : decode cX6_longest 14 = .ok (.iload_n 2, 1) := by decide +kernel
theorem dX6_longest_15 : decode cX6_longest 15 = .ok (.iconst 1, 1) := by decide +kernel
theorem dX6_longest_16 : decode cX6_longest 16 = .ok (.invokevirtual 102, 3) := by decide +kernel
theorem dX6_longest_19 : decode cX6_longest 19 = .ok (.aload_n 0, 1) := by decide +kernel
theorem dX6_longest_20 : decode cX6_longest 20 = .ok (.iload_n 2, 1) := by decide +kernel
theorem dX6_longest_21 : decode cX6_longest 21 = .ok (.iconst 0, 1) := by decide +kernel
theorem dX6_longest_22 : decode cX6_longest 22 = .ok (.invokevirtual 102, 3) := by decide +kernel
theorem dX6_longest_25 : decode cX6_longest 25 = .ok (.isub, 1) := by decide +kernel
theorem dX6_longest_26 : decode cX6_longest 26 = .ok (.invokestatic 213, 3) := by decide +kernel
theorem dX6_longest_29 : decode cX6_longest 29 = .ok (.istore_n 1, 1) := by decide +kernel
theorem dX6_longest_30 : decode cX6_longest 30 = .ok (.iinc 2 1, 3) := by decide +kernel
theorem dX6_longest_33 : decode cX6_longest 33 = .ok (.goto (-29), 3) := by decide +kernel
theorem dX6_longest_36 : decode cX6_longest 36 = .ok (.iload_n 1, 1) := by decide +kernel
theorem dX6_longest_37 : decode cX6_longest 37 = .ok (.ireturn, 1) := by decide +kernel
theorem dJ9_max_7cf53_0 : decode cJ9_max_7cf53 0 = .ok (.iload_n 0, 1) := by decide +kernel
theorem dJ9_max_7cf53_1 : decode cJ9_max_7cf53 1 = .ok (.iload_n 1, 1) := by decide +kernel
theorem dJ9_max_7cf53_2 : decode cJ9_max_7cf53 2 = .ok (.if_icmp .lt 7, 3) := by decide +kernel
theorem dJ9_max_7cf53_5 : decode cJ9_max_7cf53 5 = .ok (.iload_n 0, 1) := by decide +kernel
theorem dJ9_max_7cf53_6 : decode cJ9_max_7cf53 6 = .ok (.goto 4, 3) := by decide +kernel
theorem dJ9_max_7cf53_9 : decode cJ9_max_7cf53 9 = .ok (.iload_n 1, 1) := by decide +kernel
theorem dJ9_max_7cf53_10 : decode cJ9_max_7cf53 10 = .ok (.ireturn, 1) := by decide +kernel
theorem dJ9_min_7cf53_0 : decode cJ9_min_7cf53 0 = .ok (.iload_n 0, 1) := by decide +kernel
theorem dJ9_min_7cf53_1 : decode cJ9_min_7cf53 1 = .ok (.iload_n 1, 1) := by decide +kernel
theorem dJ9_min_7cf53_2 : decode cJ9_min_7cf53 2 = .ok (.if_icmp .gt 7, 3) := by decide +kernel
theorem dJ9_min_7cf53_5 : decode cJ9_min_7cf53 5 = .ok (.iload_n 0, 1) := by decide +kernel
theorem dJ9_min_7cf53_6 : decode cJ9_min_7cf53 6 = .ok (.goto 4, 3) := by decide +kernel
theorem dJ9_min_7cf53_9 : decode cJ9_min_7cf53 9 = .ok (.iload_n 1, 1) := by decide +kernel
theorem dJ9_min_7cf53_10 : decode cJ9_min_7cf53 10 = .ok (.ireturn, 1) := by decide +kernel
end
section
theorem dX7_init_0 : decode cX7_init 0 = .ok (.aload_n 0, 1) := by decide +kernel
theorem dX7_init_1 : decode cX7_init 1 = .ok (.invokespecial 1, 3) := by decide +kernel
theorem dX7_init_4 : decode cX7_init 4 = .ok (.aload_n 0, 1) := by decide +kernel
theorem dX7_init_5 : decode cX7_init 5 = .ok (.bipush 6, 2) := by decide +kernel
theorem dX7_init_7 : decode cX7_init 7 = .ok (.newarray .int, 2) := by decide +kernel
theorem dX7_init_9 : decode cX7_init 9 = .ok (.putfield 7, 3) := by decide +kernel
theorem dX7_init_12 : decode cX7_init 12 = .ok (.aload_n 0, 1) := by decide +kernel
theorem dX7_init_13 : decode cX7_init 13 = .ok (.bipush 6, 2) := by decide +kernel
theorem dX7_init_15 : decode cX7_init 15 = .ok (.newarray .int, 2) := by decide +kernel
theorem dX7_init_17 : decode cX7_init 17 = .ok (.putfield 13, 3) := by decide +kernel
theorem dX7_init_20 : decode cX7_init 20 = .ok (.aload_n 0, 1) := by decide +kernel
theorem dX7_init_21 : decode cX7_init 21 = .ok (.bipush 6, 2) := by decide +kernel
theorem dX7_init_23 : decode cX7_init 23 = .ok (.newarray .long, 2) := by decide +kernel
theorem dX7_init_25 : decode cX7_init 25 = .ok (.putfield 16, 3) := by decide +kernel
theorem dX7_init_28 : decode cX7_init 28 = .ok (.aload_n 0, 1) := by decide +kernel
theorem dX7_init_29 : decode cX7_init 29 = .ok (.bipush 6, 2) := by decide +kernel
theorem dX7_init_31 : decode cX7_init 31 = .ok (.newarray .int, 2) := by decide +kernel
theorem dX7_init_33 : decode cX7_init 33 = .ok (.putfield 20, 3) := by decide +kernel
theorem dX7_init_36 : decode cX7_init 36 = .ok (.aload_n 0, 1) := by decide +kernel
theorem dX7_init_37 : decode cX7_init 37 = .ok (.sipush 246, 3) := by decide +kernel
theorem dX7_init_40 : decode cX7_init 40 = .ok (.newarray .int, 2) := by decide +kernel
theorem dX7_init_42 : decode cX7_init 42 = .ok (.putfield 23, 3) := by decide +kernel
theorem dX7_init_45 : decode cX7_init 45 = .ok (.aload_n 0, 1) := by decide +kernel
theorem dX7_init_46 : decode cX7_init 46 = .ok (.sipush 246, 3) := by decide +kernel
theorem dX7_init_49 : decode cX7_init 49 = .ok (.newarray .boolean, 2) := by decide +kernel
theorem dX7_init_51 : decode cX7_init 51 = .ok (.putfield 26, 3) := by decide +kernel
theorem dX7_init_54 : decode cX7_init 54 = .ok (.aload_n 0, 1) := by decide +kernel
theorem dX7_init_55 : decode cX7_init 55 = .ok (.bipush 6, 2) := by decide +kernel
theorem dX7_init_57 : decode cX7_init 57 = .ok (.newarray .int, 2) := by decide +kernel
theorem dX7_init_59 : decode cX7_init 59 = .ok (.putfield 30, 3) := by decide +kernel
theorem dX7_init_62 : decode cX7_init 62 = .ok (.aload_n 0, 1) := by decide +kernel
theorem dX7_init_63 : decode cX7_init 63 = .ok (.bipush 120, 2) := by decide +kernel
theorem dX7_init_65 : decode cX7_init 65 = .ok (.newarray .int, 2) := by decide +kernel
theorem dX7_init_67 : decode cX7_init 67 = .ok (.putfield 33, 3) := by decide +kernel
theorem dX7_init_70 : decode cX7_init 70 = .ok (.aload_n 0, 1) := by decide +kernel
theorem dX7_init_71 : decode cX7_init 71 = .ok (.bipush 120, 2) := by decide +kernel
theorem dX7_init_73 : decode cX7_init 73 = .ok (.newarray .int, 2) := by decide +kernel
theorem dX7_init_75 : decode cX7_init 75 = .ok (.putfield 36, 3) := by decide +kernel
theorem dX7_init_78 : decode cX7_init 78 = .ok (.aload_n 0, 1) := by decide +kernel
theorem dX7_init_79 : decode cX7_init 79 = .ok (.bipush 6, 2) := by decide +kernel
theorem dX7_init_81 : decode cX7_init 81 = .ok (.newarray .int, 2) := by decide +kernel
theorem dX7_init_83 : decode cX7_init 83 = .ok (.putfield 39, 3) := by decide +kernel
theorem dX7_init_86 : decode cX7_init 86 = .ok (.aload_n 0, 1) := by decide +kernel
theorem dX7_init_87 : decode cX7_init 87 = .ok (.bipush 120, 2) := by decide +kernel
theorem dX7_init_89 : decode cX7_init 89 = .ok (.newarray .int, 2) := by decide +kernel
theorem dX7_init_91 : decode cX7_init 91 = .ok (.putfield 42, 3) := by decide +kernel
theorem dX7_init_94 : decode cX7_init 94 = .ok (.aload_n 0, 1) := by decide +kernel
theorem dX7_init_95 : decode cX7_init 95 = .ok (.bipush 120, 2) := by decide +kernel
theorem dX7_init_97 : decode cX7_init 97 = .ok (.newarray .int, 2) := by decide +kernel
theorem dX7_init_99 : decode cX7_init 99 = .ok (.putfield 45, 3) := by decide +kernel
theorem dX7_init_102 : decode cX7_init 102 = .ok (.aload_n 0, 1) := by decide +kernel
theorem dX7_init_103 : decode cX7_init 103 = .ok (.bipush 6, 2) := by decide +kernel
theorem dX7_init_105 : decode cX7_init 105 = .ok (.newarray .int, 2) := by decide +kernel
theorem dX7_init_107 : decode cX7_init 107 = .ok (.putfield 48, 3) := by decide +kernel
theorem dX7_init_110 : decode cX7_init 110 = .ok (.aload_n 0, 1) := by decide +kernel
theorem dX7_init_111 : decode cX7_init 111 = .ok (.bipush 6, 2) := by decide +kernel
theorem dX7_init_113 : decode cX7_init 113 = .ok (.newarray .int, 2) := by decide +kernel
theorem dX7_init_115 : decode cX7_init 115 = .ok (.putfield 51, 3) := by decide +kernel
theorem dX7_init_118 : decode cX7_init 118 = .ok (.aload_n 0, 1) := by decide +kernel
theorem dX7_init_119 : decode cX7_init 119 = .ok (.bipush 6, 2) := by decide +kernel
theorem dX7_init_121 : decode cX7_init 121 = .ok (.newarray .int, 2) := by decide +kernel
theorem dX7_init_123 : decode cX7_init 123 = .ok (.putfield 54, 3) := by decide +kernel
theorem dX7_init_126 : decode cX7_init 126 = .ok (.aload_n 0, 1) := by decide +kernel
theorem dX7_init_127 : decode cX7_init 127 = .ok (.bipush 6, 2) := by decide +kernel
theorem dX7_init_129 : decode cX7_init 129 = .ok (.newarray .int, 2) := by decide +kernel
theorem dX7_init_131 : decode cX7_init 131 = .ok (.putfield 57, 3) := by decide +kernel
theorem dX7_init_134 : decode cX7_init 134 = .ok (.aload_n 0, 1) := by decide +kernel
theorem dX7_init_135 : decode cX7_init 135 = .ok (.bipush 41, 2) := by decide +kernel
theorem dX7_init_137 : decode cX7_init 137 = .ok (.newarray .int, 2) := by decide +kernel
theorem dX7_init_139 : decode cX7_init 139 = .ok (.putfield 60, 3) := by decide +kernel
theorem dX7_init_142 : decode cX7_init 142 = .ok (.aload_n 0, 1) := by decide +kernel
theorem dX7_init_143 : decode cX7_init 143 = .ok (.bipush 41, 2) := by decide +kernel
theorem dX7_init_145 : decode cX7_init 145 = .ok (.newarray .int, 2) := by decide +kernel
theorem dX7_init_147 : decode cX7_init 147 = .ok (.putfield 63, 3) := by decide +kernel
theorem dX7_init_150 : decode cX7_init 150 = .ok (.aload_n 0, 1) := by decide +kernel
theorem dX7_init_151 : decode cX7_init 151 = .ok (.sipush 10081, 3) := by decide +kernel
theorem dX7_init_154 : decode cX7_init 154 = .ok (.newarray .int, 2) := by decide +kernel
theorem dX7_init_156 : decode cX7_init 156 = .ok (.putfield 66, 3) := by decide +kernel
theorem dX7_init_159 : decode cX7_init 159 = .ok (.aload_n 0, 1) := by decide +kernel
theorem dX7_init_160 : decode cX7_init 160 = .ok (.sipush 10081, 3) := by decide +kernel
theorem dX7_init_163 : decode cX7_init 163 = .ok (.newarray .int, 2) := by decide +kernel
theorem dX7_init_165 : decode cX7_init 165 = .ok (.putfield 69, 3) := by decide +kernel
theorem dX7_init_168 : decode cX7_init 168 = .ok (.aload_n 0, 1) := by decide +kernel
theorem dX7_init_169 : decode cX7_init 169 = .ok (.sipush 10080, 3) := by decide +kernel
theorem dX7_init_172 : decode cX7_init 172 = .ok (.newarray .int, 2) := by decide +kernel
theorem dX7_init_174 : decode cX7_init 174 = .ok (.putfield 72, 3) := by decide +kernel
theorem dX7_init_177 : decode cX7_init 177 = .ok (.aload_n 0, 1) := by decide +kernel
theorem dX7_init_178 : decode cX7_init 178 = .ok (.bipush 7, 2) := by decide +kernel
theorem dX7_init_180 : decode cX7_init 180 = .ok (.newarray .int, 2) := by decide +kernel
theorem dX7_init_182 : decode cX7_init 182 = .ok (.putfield 75, 3) := by decide +kernel
theorem dX7_init_185 : decode cX7_init 185 = .ok (.aload_n 0, 1) := by decide +kernel
theorem dX7_init_186 : decode cX7_init 186 = .ok (.bipush 7, 2) := by decide +kernel
theorem dX7_init_188 : decode cX7_init 188 = .ok (.newarray .int, 2) := by decide +kernel
theorem dX7_init_190 : decode cX7_init 190 = .ok (.putfield 78, 3) := by decide +kernel
theorem dX7_init_193 : decode cX7_init 193 = .ok (.aload_n 0, 1) := by decide +kernel
theorem dX7_init_194 : decode cX7_init 194 = .ok (.bipush 21, 2) := by decide +kernel
theorem dX7_init_196 : decode cX7_init 196 = .ok (.newarray .int, 2) := by decide +kernel
theorem dX7_init_198 : decode cX7_init 198 = .ok (.putfield 81, 3) := by decide +kernel
theorem dX7_init_201 : decode cX7_init 201 = .ok (.aload_n 0, 1) := by decide +kernel
theorem dX7_init_202 : decode cX7_init 202 = .ok (.bipush 21, 2) := by decide +kernel
theorem dX7_init_204 : decode cX7_init 204 = .ok (.newarray .int, 2) := by decide +kernel
theorem dX7_init_206 : decode cX7_init 206 = .ok (.putfield 84, 3) := by decide +kernel
theorem dX7_init_209 : decode cX7_init 209 = .ok (.aload_n 0, 1) := by decide +kernel
theorem dX7_init_210 : decode cX7_init 210 = .ok (.iconst 3, 1) := by decide +kernel
theorem dX7_init_211 : decode cX7_init 211 = .ok (.newarray .int, 2) := by decide +kernel
theorem dX7_init_213 : decode cX7_init 213 = .ok (.putfield 87, 3) := by decide +kernel
theorem dX7_init_216 : decode cX7_init 216 = .ok (.aload_n 0, 1) := by decide +kernel
theorem dX7_init_217 : decode cX7_init 217 = .ok (.iconst 0, 1) := by decide +kernel
theorem dX7_init_218 : decode cX7_init 218 = .ok (.putfield 90, 3) := by decide +kernel
theorem dX7_init_221 : decode cX7_init 221 = .ok (.return_, 1) := by decide +kernel
theorem dX7_thrown_0 : decode cX7_thrown 0 = .ok (.aload_n 0, 1) := by decide +kernel
theorem dX7_thrown_1 : decode cX7_thrown 1 = .ok (.getfield 90, 3) := by decide +kernel
theorem dX7_thrown_4 : decode cX7_thrown 4 = .ok (.ireturn, 1) := by decide +kernel
theorem dX7_fails_0 : decode cX7_fails 0 = .ok (.aload_n 0, 1) := by decide +kernel
theorem dX7_fails_1 : decode cX7_fails 1 = .ok (.iload_n 1, 1) := by decide +kernel
theorem dX7_fails_2 : decode cX7_fails 2 = .ok (.putfield 90, 3) := by decide +kernel
theorem dX7_fails_5 : decode cX7_fails 5 = .ok (.iconst 0, 1) := by decide +kernel
theorem dX7_fails_6 : decode cX7_fails 6 = .ok (.ireturn, 1) := by decide +kernel
theorem dX7_in_0 : decode cX7_in 0 = .ok (.iload_n 0, 1) := by decide +kernel
theorem dX7_in_1 : decode cX7_in 1 = .ok (.iload_n 1, 1) := by decide +kernel
theorem dX7_in_2 : decode cX7_in 2 = .ok (.if_icmp .lt 12, 3) := by decide +kernel
theorem dX7_in_5 : decode cX7_in 5 = .ok (.iload_n 0, 1) := by decide +kernel
theorem dX7_in_6 : decode cX7_in 6 = .ok (.iload_n 2, 1) := by decide +kernel
theorem dX7_in_7 : decode cX7_in 7 = .ok (.if_icmp .gt 7, 3) := by decide +kernel
theorem dX7_in_10 : decode cX7_in 10 = .ok (.iconst 1, 1) := by decide +kernel
theorem dX7_in_11 : decode cX7_in 11 = .ok (.goto 4, 3) := by decide +kernel
theorem dX7_in_14 : decode cX7_in 14 = .ok (.iconst 0, 1) := by decide +kernel
theorem dX7_in_15 : decode cX7_in 15 = .ok (.ireturn, 1) := by decide +kernel
theorem dX7_isOne_0 : decode cX7_isOne 0 = .ok (.iload_n 1, 1) := by decide +kernel
theorem dX7_isOne_1 : decode cX7_isOne 1 = .ok (.iconst 0, 1) := by decide +kernel
theorem dX7_isOne_2 : decode cX7_isOne 2 = .ok (.aload_n 0, 1) := by decide +kernel
theorem dX7_isOne_3 : decode cX7_isOne 3 = .ok (.getfield 94, 3) := by decide +kernel
theorem dX7_isOne_6 : decode cX7_isOne 6 = .ok (.iconst 1, 1) := by decide +kernel
theorem dX7_isOne_7 : decode cX7_isOne 7 = .ok (.isub, 1) := by decide +kernel
theorem dX7_isOne_8 : decode cX7_isOne 8 = .ok (.invokestatic 97, 3) := by decide +kernel
theorem dX7_isOne_11 : decode cX7_isOne 11 = .ok (.ireturn, 1) := by decide +kernel
theorem dX7_hire_0 : decode cX7_hire 0 = .ok (.aload_n 0, 1) := by decide +kernel
theorem dX7_hire_1 : decode cX7_hire 1 = .ok (.iload_n 1, 1) := by decide +kernel
theorem dX7_hire_2 : decode cX7_hire 2 = .ok (.iconst 1, 1) := by decide +kernel
theorem dX7_hire_3 : decode cX7_hire 3 = .ok (.ldc 101, 2) := by decide +kernel
theorem dX7_hire_5 : decode cX7_hire 5 = .ok (.invokestatic 97, 3) := by decide +kernel
theorem dX7_hire_8 : decode cX7_hire 8 = .ok (.ifCond .ne 7, 3) := by decide +kernel
theorem dX7_hire_11 : decode cX7_hire 11 = .ok (.iconst 1, 1) := by decide +kernel
theorem dX7_hire_12 : decode cX7_hire 12 = .ok (.goto 17, 3) := by decide +kernel
theorem dX7_hire_15 : decode cX7_hire 15 = .ok (.aload_n 0, 1) := by decide +kernel
theorem dX7_hire_16 : decode cX7_hire 16 = .ok (.getfield 94, 3) := by decide +kernel
theorem dX7_hire_19 : decode cX7_hire 19 = .ok (.bipush 6, 2) := by decide +kernel
theorem dX7_hire_21 : decode cX7_hire 21 = .ok (.if_icmp .ne 7, 3) := by decide +kernel
theorem dX7_hire_24 : decode cX7_hire 24 = .ok (.iconst 2, 1) := by decide +kernel
theorem dX7_hire_25 : decode cX7_hire 25 = .ok (.goto 4, 3) := by decide +kernel
theorem dX7_hire_28 : decode cX7_hire 28 = .ok (.iconst 0, 1) := by decide +kernel
theorem dX7_hire_29 : decode cX7_hire 29 = .ok (.putfield 90, 3) := by decide +kernel
theorem dX7_hire_32 : decode cX7_hire 32 = .ok (.aload_n 0, 1) := by decide +kernel
theorem dX7_hire_33 : decode cX7_hire 33 = .ok (.getfield 90, 3) := by decide +kernel
theorem dX7_hire_36 : decode cX7_hire 36 = .ok (.ifCond .le 5, 3) := by decide +kernel
theorem dX7_hire_39 : decode cX7_hire 39 = .ok (.iconst 0, 1) := by decide +kernel
theorem dX7_hire_40 : decode cX7_hire 40 = .ok (.ireturn, 1) := by decide +kernel
theorem dX7_hire_41 : decode cX7_hire 41 = .ok (.aload_n 0, 1) := by decide +kernel
theorem dX7_hire_42 : decode cX7_hire 42 = .ok (.getfield 7, 3) := by decide +kernel
theorem dX7_hire_45 : decode cX7_hire 45 = .ok (.aload_n 0, 1) := by decide +kernel
theorem dX7_hire_46 : decode cX7_hire 46 = .ok (.getfield 94, 3) := by decide +kernel
theorem dX7_hire_49 : decode cX7_hire 49 = .ok (.iload_n 1, 1) := by decide +kernel
theorem dX7_hire_50 : decode cX7_hire 50 = .ok (.iastore, 1) := by decide +kernel
theorem dX7_hire_51 : decode cX7_hire 51 = .ok (.aload_n 0, 1) := by decide +kernel
theorem dX7_hire_52 : decode cX7_hire 52 = .ok (.dup, 1) := by decide +kernel
theorem dX7_hire_53 : decode cX7_hire 53 = .ok (.getfield 94, 3) := by decide +kernel
theorem dX7_hire_56 : decode cX7_hire 56 = .ok (.iconst 1, 1) := by decide +kernel
theorem dX7_hire_57 : decode cX7_hire 57 = .ok (.iadd, 1) := by decide +kernel
theorem dX7_hire_58 : decode cX7_hire 58 = .ok (.putfield 94, 3) := by decide +kernel
theorem dX7_hire_61 : decode cX7_hire 61 = .ok (.aload_n 0, 1) := by decide +kernel
theorem dX7_hire_62 : decode cX7_hire 62 = .ok (.getfield 94, 3) := by decide +kernel
theorem dX7_hire_65 : decode cX7_hire 65 = .ok (.iconst 1, 1) := by decide +kernel
theorem dX7_hire_66 : decode cX7_hire 66 = .ok (.isub, 1) := by decide +kernel
theorem dX7_hire_67 : decode cX7_hire 67 = .ok (.ireturn, 1) := by decide +kernel
theorem dX7_setWage_0 : decode cX7_setWage 0 = .ok (.aload_n 0, 1) := by decide +kernel
theorem dX7_setWage_1 : decode cX7_setWage 1 = .ok (.aload_n 0, 1) := by decide +kernel
theorem dX7_setWage_2 : decode cX7_setWage 2 = .ok (.iload_n 1, 1) := by decide +kernel
theorem dX7_setWage_3 : decode cX7_setWage 3 = .ok (.invokevirtual 102, 3) := by decide +kernel
theorem dX7_setWage_6 : decode cX7_setWage 6 = .ok (.ifCond .ne 7, 3) := by decide +kernel
theorem dX7_setWage_9 : decode cX7_setWage 9 = .ok (.iconst 1, 1) := by decide +kernel
theorem dX7_setWage_10 : decode cX7_setWage 10 = .ok (.goto 18, 3) := by decide +kernel
theorem dX7_setWage_13 : decode cX7_setWage 13 = .ok (.iload_n 2, 1) := by decide +kernel
theorem dX7_setWage_14 : decode cX7_setWage 14 = .ok (.iconst 1, 1) := by decide +kernel
theorem dX7_setWage_15 : decode cX7_setWage 15 = .ok (.ldc 101, 2) := by decide +kernel
theorem dX7_setWage_17 : decode cX7_setWage 17 = .ok (.invokestatic 97, 3) := by decide +kernel
theorem dX7_setWage_20 : decode cX7_setWage 20 = .ok (.ifCond .eq 7, 3) := by decide +kernel
theorem dX7_setWage_23 : decode cX7_setWage 23 = .ok (.iconst 0, 1) := by decide +kernel
theorem dX7_setWage_24 : decode cX7_setWage 24 = .ok (.goto 4, 3) := by decide +kernel
theorem dX7_setWage_27 : decode cX7_setWage 27 = .ok (.iconst 2, 1) := by decide +kernel
theorem dX7_setWage_28 : decode cX7_setWage 28 = .ok (.putfield 90, 3) := by decide +kernel
theorem dX7_setWage_31 : decode cX7_setWage 31 = .ok (.aload_n 0, 1) := by decide +kernel
theorem dX7_setWage_32 : decode cX7_setWage 32 = .ok (.getfield 90, 3) := by decide +kernel
theorem dX7_setWage_35 : decode cX7_setWage 35 = .ok (.ifCond .le 5, 3) := by decide +kernel
theorem dX7_setWage_38 : decode cX7_setWage 38 = .ok (.iconst 0, 1) := by decide +kernel
theorem dX7_setWage_39 : decode cX7_setWage 39 = .ok (.ireturn, 1) := by decide +kernel
theorem dX7_setWage_40 : decode cX7_setWage 40 = .ok (.aload_n 0, 1) := by decide +kernel
theorem dX7_setWage_41 : decode cX7_setWage 41 = .ok (.getfield 7, 3) := by decide +kernel
theorem dX7_setWage_44 : decode cX7_setWage 44 = .ok (.iload_n 1, 1) := by decide +kernel
theorem dX7_setWage_45 : decode cX7_setWage 45 = .ok (.iaload, 1) := by decide +kernel
theorem dX7_setWage_46 : decode cX7_setWage 46 = .ok (.istore_n 3, 1) := by decide +kernel
theorem dX7_setWage_47 : decode cX7_setWage 47 = .ok (.aload_n 0, 1) := by decide +kernel
theorem dX7_setWage_48 : decode cX7_setWage 48 = .ok (.getfield 7, 3) := by decide +kernel
theorem dX7_setWage_51 : decode cX7_setWage 51 = .ok (.iload_n 1, 1) := by decide +kernel
theorem dX7_setWage_52 : decode cX7_setWage 52 = .ok (.iload_n 2, 1) := by decide +kernel
theorem dX7_setWage_53 : decode cX7_setWage 53 = .ok (.iastore, 1) := by decide +kernel
theorem dX7_setWage_54 : decode cX7_setWage 54 = .ok (.iload_n 3, 1) := by decide +kernel
theorem dX7_setWage_55 : decode cX7_setWage 55 = .ok (.ireturn, 1) := by decide +kernel
theorem dX7_placeOf_0 : decode cX7_placeOf 0 = .ok (.iconst 0, 1) := by decide +kernel
theorem dX7_placeOf_1 : decode cX7_placeOf 1 = .ok (.istore_n 3, 1) := by decide +kernel
theorem dX7_placeOf_2 : decode cX7_placeOf 2 = .ok (.iload_n 3, 1) := by decide +kernel
theorem dX7_placeOf_3 : decode cX7_placeOf 3 = .ok (.aload_n 0, 1) := by decide +kernel
theorem dX7_placeOf_4 : decode cX7_placeOf 4 = .ok (.getfield 20, 3) := by decide +kernel
theorem dX7_placeOf_7 : decode cX7_placeOf 7 = .ok (.iload_n 1, 1) := by decide +kernel
theorem dX7_placeOf_8 : decode cX7_placeOf 8 = .ok (.iaload, 1) := by decide +kernel
theorem dX7_placeOf_9 : decode cX7_placeOf 9 = .ok (.if_icmp .ge 24, 3) := by decide +kernel
theorem dX7_placeOf_12 : decode cX7_placeOf 12 = .ok (.aload_n 0, 1) := by decide +kernel
theorem dX7_placeOf_13 : decode cX7_placeOf 13 = .ok (.getfield 23, 3) := by decide +kernel
theorem dX7_placeOf_16 : decode cX7_placeOf 16 = .ok (.bipush 41, 2) := by decide +kernel
theorem dX7_placeOf_18 : decode cX7_placeOf 18 = .ok (.iload_n 1, 1) := by decide +kernel
theorem dX7_placeOf_19 : decode cX7_placeOf 19 = .ok (.imul, 1) := by decide +kernel
theorem dX7_placeOf_20 : decode cX7_placeOf 20 = .ok (.iload_n 3, 1) := by decide +kernel
theorem dX7_placeOf_21 : decode cX7_placeOf 21 = .ok (.iadd, 1) := by decide +kernel
theorem dX7_placeOf_22 : decode cX7_placeOf 22 = .ok (.iaload, 1) := by decide +kernel
theorem dX7_placeOf_23 : decode cX7_placeOf 23 = .ok (.iload_n 2, 1) := by decide +kernel
theorem dX7_placeOf_24 : decode cX7_placeOf 24 = .ok (.if_icmp .ge 9, 3) := by decide +kernel
theorem dX7_placeOf_27 : decode cX7_placeOf 27 = .ok (.iinc 3 1, 3) := by decide +kernel
theorem dX7_placeOf_30 : decode cX7_placeOf 30 = .ok (.goto (-28), 3) := by decide +kernel
theorem dX7_placeOf_33 : decode cX7_placeOf 33 = .ok (.iload_n 3, 1) := by decide +kernel
theorem dX7_placeOf_34 : decode cX7_placeOf 34 = .ok (.ireturn, 1) := by decide +kernel
theorem dX7_hasPunch_0 : decode cX7_hasPunch 0 = .ok (.aload_n 0, 1) := by decide +kernel
theorem dX7_hasPunch_1 : decode cX7_hasPunch 1 = .ok (.iload_n 1, 1) := by decide +kernel
theorem dX7_hasPunch_2 : decode cX7_hasPunch 2 = .ok (.iload_n 2, 1) := by decide +kernel
theorem dX7_hasPunch_3 : decode cX7_hasPunch 3 = .ok (.invokevirtual 106, 3) := by decide +kernel
theorem dX7_hasPunch_6 : decode cX7_hasPunch 6 = .ok (.istore_n 3, 1) := by decide +kernel
theorem dX7_hasPunch_7 : decode cX7_hasPunch 7 = .ok (.iload_n 3, 1) := by decide +kernel
theorem dX7_hasPunch_8 : decode cX7_hasPunch 8 = .ok (.aload_n 0, 1) := by decide +kernel
theorem dX7_hasPunch_9 : decode cX7_hasPunch 9 = .ok (.getfield 20, 3) := by decide +kernel
theorem dX7_hasPunch_12 : decode cX7_hasPunch 12 = .ok (.iload_n 1, 1) := by decide +kernel
theorem dX7_hasPunch_13 : decode cX7_hasPunch 13 = .ok (.iaload, 1) := by decide +kernel
theorem dX7_hasPunch_14 : decode cX7_hasPunch 14 = .ok (.if_icmp .ge 22, 3) := by decide +kernel
theorem dX7_hasPunch_17 : decode cX7_hasPunch 17 = .ok (.aload_n 0, 1) := by decide +kernel
theorem dX7_hasPunch_18 : decode cX7_hasPunch 18 = .ok (.getfield 23, 3) := by decide +kernel
theorem dX7_hasPunch_21 : decode cX7_hasPunch 21 = .ok (.bipush 41, 2) := by decide +kernel
theorem dX7_hasPunch_23 : decode cX7_hasPunch 23 = .ok (.iload_n 1, 1) := by decide +kernel
theorem dX7_hasPunch_24 : decode cX7_hasPunch 24 = .ok (.imul, 1) := by decide +kernel
theorem dX7_hasPunch_25 : decode cX7_hasPunch 25 = .ok (.iload_n 3, 1) := by decide +kernel
theorem dX7_hasPunch_26 : decode cX7_hasPunch 26 = .ok (.iadd, 1) := by decide +kernel
theorem dX7_hasPunch_27 : decode cX7_hasPunch 27 = .ok (.iaload, 1) := by decide +kernel
theorem dX7_hasPunch_28 : decode cX7_hasPunch 28 = .ok (.iload_n 2, 1) := by decide +kernel
theorem dX7_hasPunch_29 : decode cX7_hasPunch 29 = .ok (.if_icmp .ne 7, 3) := by decide +kernel
theorem dX7_hasPunch_32 : decode cX7_hasPunch 32 = .ok (.iconst 1, 1) := by decide +kernel
theorem dX7_hasPunch_33 : decode cX7_hasPunch 33 = .ok (.goto 4, 3) := by decide +kernel
theorem dX7_hasPunch_36 : decode cX7_hasPunch 36 = .ok (.iconst 0, 1) := by decide +kernel
theorem dX7_hasPunch_37 : decode cX7_hasPunch 37 = .ok (.ireturn, 1) := by decide +kernel
theorem dX7_punch_0 : decode cX7_punch 0 = .ok (.aload_n 0, 1) := by decide +kernel
theorem dX7_punch_1 : decode cX7_punch 1 = .ok (.aload_n 0, 1) := by decide +kernel
theorem dX7_punch_2 : decode cX7_punch 2 = .ok (.iload_n 1, 1) := by decide +kernel
theorem dX7_punch_3 : decode cX7_punch 3 = .ok (.invokevirtual 102, 3) := by decide +kernel
theorem dX7_punch_6 : decode cX7_punch 6 = .ok (.ifCond .ne 7, 3) := by decide +kernel
theorem dX7_punch_9 : decode cX7_punch 9 = .ok (.iconst 1, 1) := by decide +kernel
theorem dX7_punch_10 : decode cX7_punch 10 = .ok (.goto 43, 3) := by decide +kernel
theorem dX7_punch_13 : decode cX7_punch 13 = .ok (.iload_n 2, 1) := by decide +kernel
theorem dX7_punch_14 : decode cX7_punch 14 = .ok (.iconst 0, 1) := by decide +kernel
theorem dX7_punch_15 : decode cX7_punch 15 = .ok (.sipush 10080, 3) := by decide +kernel
theorem dX7_punch_18 : decode cX7_punch 18 = .ok (.invokestatic 97, 3) := by decide +kernel
theorem dX7_punch_21 : decode cX7_punch 21 = .ok (.ifCond .ne 7, 3) := by decide +kernel
theorem dX7_punch_24 : decode cX7_punch 24 = .ok (.iconst 2, 1) := by decide +kernel
theorem dX7_punch_25 : decode cX7_punch 25 = .ok (.goto 28, 3) := by decide +kernel
theorem dX7_punch_28 : decode cX7_punch 28 = .ok (.aload_n 0, 1) := by decide +kernel
theorem dX7_punch_29 : decode cX7_punch 29 = .ok (.iload_n 1, 1) := by decide +kernel
theorem dX7_punch_30 : decode cX7_punch 30 = .ok (.iload_n 2, 1) := by decide +kernel
theorem dX7_punch_31 : decode cX7_punch 31 = .ok (.invokevirtual 110, 3) := by decide +kernel
theorem dX7_punch_34 : decode cX7_punch 34 = .ok (.ifCond .ne 14, 3) := by decide +kernel
theorem dX7_punch_37 : decode cX7_punch 37 = .ok (.aload_n 0, 1) := by decide +kernel
theorem dX7_punch_38 : decode cX7_punch 38 = .ok (.getfield 20, 3) := by decide +kernel
theorem dX7_punch_41 : decode cX7_punch 41 = .ok (.iload_n 1, 1) := by decide +kernel
theorem dX7_punch_42 : decode cX7_punch 42 = .ok (.iaload, 1) := by decide +kernel
theorem dX7_punch_43 : decode cX7_punch 43 = .ok (.bipush 40, 2) := by decide +kernel
theorem dX7_punch_45 : decode cX7_punch 45 = .ok (.if_icmp .ne 7, 3) := by decide +kernel
theorem dX7_punch_48 : decode cX7_punch 48 = .ok (.iconst 3, 1) := by decide +kernel
theorem dX7_punch_49 : decode cX7_punch 49 = .ok (.goto 4, 3) := by decide +kernel
theorem dX7_punch_52 : decode cX7_punch 52 = .ok (.iconst 0, 1) := by decide +kernel
theorem dX7_punch_53 : decode cX7_punch 53 = .ok (.putfield 90, 3) := by decide +kernel
theorem dX7_punch_56 : decode cX7_punch 56 = .ok (.aload_n 0, 1) := by decide +kernel
theorem dX7_punch_57 : decode cX7_punch 57 = .ok (.getfield 90, 3) := by decide +kernel
theorem dX7_punch_60 : decode cX7_punch 60 = .ok (.ifCond .le 5, 3) := by decide +kernel
theorem dX7_punch_63 : decode cX7_punch 63 = .ok (.iconst 0, 1) := by decide +kernel
theorem dX7_punch_64 : decode cX7_punch 64 = .ok (.ireturn, 1) := by decide +kernel
theorem dX7_punch_65 : decode cX7_punch 65 = .ok (.aload_n 0, 1) := by decide +kernel
theorem dX7_punch_66 : decode cX7_punch 66 = .ok (.iload_n 1, 1) := by decide +kernel
theorem dX7_punch_67 : decode cX7_punch 67 = .ok (.iload_n 2, 1) := by decide +kernel
theorem dX7_punch_68 : decode cX7_punch 68 = .ok (.invokevirtual 106, 3) := by decide +kernel
theorem dX7_punch_71 : decode cX7_punch 71 = .ok (.istore 4, 2) := by decide +kernel
theorem dX7_punch_73 : decode cX7_punch 73 = .ok (.aload_n 0, 1) := by decide +kernel
theorem dX7_punch_74 : decode cX7_punch 74 = .ok (.getfield 20, 3) := by decide +kernel
theorem dX7_punch_77 : decode cX7_punch 77 = .ok (.iload_n 1, 1) := by decide +kernel
theorem dX7_punch_78 : decode cX7_punch 78 = .ok (.iaload, 1) := by decide +kernel
theorem dX7_punch_79 : decode cX7_punch 79 = .ok (.istore 5, 2) := by decide +kernel
theorem dX7_punch_81 : decode cX7_punch 81 = .ok (.iload 5, 2) := by decide +kernel
theorem dX7_punch_83 : decode cX7_punch 83 = .ok (.iload 4, 2) := by decide +kernel
theorem dX7_punch_85 : decode cX7_punch 85 = .ok (.if_icmp .le 61, 3) := by decide +kernel
theorem dX7_punch_88 : decode cX7_punch 88 = .ok (.aload_n 0, 1) := by decide +kernel
theorem dX7_punch_89 : decode cX7_punch 89 = .ok (.getfield 23, 3) := by decide +kernel
theorem dX7_punch_92 : decode cX7_punch 92 = .ok (.bipush 41, 2) := by decide +kernel
theorem dX7_punch_94 : decode cX7_punch 94 = .ok (.iload_n 1, 1) := by decide +kernel
theorem dX7_punch_95 : decode cX7_punch 95 = .ok (.imul, 1) := by decide +kernel
theorem dX7_punch_96 : decode cX7_punch 96 = .ok (.iload 5, 2) := by decide +kernel
theorem dX7_punch_98 : decode cX7_punch 98 = .ok (.iadd, 1) := by decide +kernel
theorem dX7_punch_99 : decode cX7_punch 99 = .ok (.aload_n 0, 1) := by decide +kernel
theorem dX7_punch_100 : decode cX7_punch 100 = .ok (.getfield 23, 3) := by decide +kernel
theorem dX7_punch_103 : decode cX7_punch 103 = .ok (.bipush 41, 2) := by decide +kernel
theorem dX7_punch_105 : decode cX7_punch 105 = .ok (.iload_n 1, 1) := by decide +kernel
theorem dX7_punch_106 : decode cX7_punch 106 = .ok (.imul, 1) := by decide +kernel
theorem dX7_punch_107 : decode cX7_punch 107 = .ok (.iload 5, 2) := by decide +kernel
theorem dX7_punch_109 : decode cX7_punch 109 = .ok (.iadd, 1) := by decide +kernel
theorem dX7_punch_110 : decode cX7_punch 110 = .ok (.iconst 1, 1) := by decide +kernel
theorem dX7_punch_111 : decode cX7_punch 111 = .ok (.isub, 1) := by decide +kernel
theorem dX7_punch_112 : decode cX7_punch 112 = .ok (.iaload, 1) := by decide +kernel
theorem dX7_punch_113 : decode cX7_punch 113 = .ok (.iastore, 1) := by decide +kernel
theorem dX7_punch_114 : decode cX7_punch 114 = .ok (.aload_n 0, 1) := by decide +kernel
theorem dX7_punch_115 : decode cX7_punch 115 = .ok (.getfield 26, 3) := by decide +kernel
theorem dX7_punch_118 : decode cX7_punch 118 = .ok (.bipush 41, 2) := by decide +kernel
theorem dX7_punch_120 : decode cX7_punch 120 = .ok (.iload_n 1, 1) := by decide +kernel
theorem dX7_punch_121 : decode cX7_punch 121 = .ok (.imul, 1) := by decide +kernel
theorem dX7_punch_122 : decode cX7_punch 122 = .ok (.iload 5, 2) := by decide +kernel
theorem dX7_punch_124 : decode cX7_punch 124 = .ok (.iadd, 1) := by decide +kernel
theorem dX7_punch_125 : decode cX7_punch 125 = .ok (.aload_n 0, 1) := by decide +kernel
theorem dX7_punch_126 : decode cX7_punch 126 = .ok (.getfield 26, 3) := by decide +kernel
theorem dX7_punch_129 : decode cX7_punch 129 = .ok (.bipush 41, 2) := by decide +kernel
theorem dX7_punch_131 : decode cX7_punch 131 = .ok (.iload_n 1, 1) := by decide +kernel
theorem dX7_punch_132 : decode cX7_punch 132 = .ok (.imul, 1) := by decide +kernel
theorem dX7_punch_133 : decode cX7_punch 133 = .ok (.iload 5, 2) := by decide +kernel
theorem dX7_punch_135 : decode cX7_punch 135 = .ok (.iadd, 1) := by decide +kernel
theorem dX7_punch_136 : decode cX7_punch 136 = .ok (.iconst 1, 1) := by decide +kernel
theorem dX7_punch_137 : decode cX7_punch 137 = .ok (.isub, 1) := by decide +kernel
theorem dX7_punch_138 : decode cX7_punch 138 = .ok (.baload, 1) := by decide +kernel
theorem dX7_punch_139 : decode cX7_punch 139 = .ok (.bastore, 1) := by decide +kernel
theorem dX7_punch_140 : decode cX7_punch 140 = .ok (.iinc 5 (-1), 3) := by decide +kernel
theorem dX7_punch_143 : decode cX7_punch 143 = .ok (.goto (-62), 3) := by decide +kernel
theorem dX7_punch_146 : decode cX7_punch 146 = .ok (.aload_n 0, 1) := by decide +kernel
theorem dX7_punch_147 : decode cX7_punch 147 = .ok (.getfield 23, 3) := by decide +kernel
theorem dX7_punch_150 : decode cX7_punch 150 = .ok (.bipush 41, 2) := by decide +kernel
theorem dX7_punch_152 : decode cX7_punch 152 = .ok (.iload_n 1, 1) := by decide +kernel
theorem dX7_punch_153 : decode cX7_punch 153 = .ok (.imul, 1) := by decide +kernel
theorem dX7_punch_154 : decode cX7_punch 154 = .ok (.iload 4, 2) := by decide +kernel
theorem dX7_punch_156 : decode cX7_punch 156 = .ok (.iadd, 1) := by decide +kernel
theorem dX7_punch_157 : decode cX7_punch 157 = .ok (.iload_n 2, 1) := by decide +kernel
theorem dX7_punch_158 : decode cX7_punch 158 = .ok (.iastore, 1) := by decide +kernel
theorem dX7_punch_159 : decode cX7_punch 159 = .ok (.aload_n 0, 1) := by decide +kernel
theorem dX7_punch_160 : decode cX7_punch 160 = .ok (.getfield 26, 3) := by decide +kernel
theorem dX7_punch_163 : decode cX7_punch 163 = .ok (.bipush 41, 2) := by decide +kernel
theorem dX7_punch_165 : decode cX7_punch 165 = .ok (.iload_n 1, 1) := by decide +kernel
theorem dX7_punch_166 : decode cX7_punch 166 = .ok (.imul, 1) := by decide +kernel
theorem dX7_punch_167 : decode cX7_punch 167 = .ok (.iload 4, 2) := by decide +kernel
theorem dX7_punch_169 : decode cX7_punch 169 = .ok (.iadd, 1) := by decide +kernel
theorem dX7_punch_170 : decode cX7_punch 170 = .ok (.iload_n 3, 1) := by decide +kernel
theorem dX7_punch_171 : decode cX7_punch 171 = .ok (.bastore, 1) := by decide +kernel
theorem dX7_punch_172 : decode cX7_punch 172 = .ok (.aload_n 0, 1) := by decide +kernel
theorem dX7_punch_173 : decode cX7_punch 173 = .ok (.getfield 20, 3) := by decide +kernel
theorem dX7_punch_176 : decode cX7_punch 176 = .ok (.iload_n 1, 1) := by decide +kernel
theorem dX7_punch_177 : decode cX7_punch 177 = .ok (.dup2, 1) := by decide +kernel
theorem dX7_punch_178 : decode cX7_punch 178 = .ok (.iaload, 1) := by decide +kernel
theorem dX7_punch_179 : decode cX7_punch 179 = .ok (.iconst 1, 1) := by decide +kernel
theorem dX7_punch_180 : decode cX7_punch 180 = .ok (.iadd, 1) := by decide +kernel
theorem dX7_punch_181 : decode cX7_punch 181 = .ok (.iastore, 1) := by decide +kernel
theorem dX7_punch_182 : decode cX7_punch 182 = .ok (.aload_n 0, 1) := by decide +kernel
theorem dX7_punch_183 : decode cX7_punch 183 = .ok (.getfield 20, 3) := by decide +kernel
theorem dX7_punch_186 : decode cX7_punch 186 = .ok (.iload_n 1, 1) := by decide +kernel
theorem dX7_punch_187 : decode cX7_punch 187 = .ok (.iaload, 1) := by decide +kernel
theorem dX7_punch_188 : decode cX7_punch 188 = .ok (.ireturn, 1) := by decide +kernel
theorem dX7_removePunch_0 : decode cX7_removePunch 0 = .ok (.aload_n 0, 1) := by decide +kernel
theorem dX7_removePunch_1 : decode cX7_removePunch 1 = .ok (.aload_n 0, 1) := by decide +kernel
theorem dX7_removePunch_2 : decode cX7_removePunch 2 = .ok (.iload_n 1, 1) := by decide +kernel
theorem dX7_removePunch_3 : decode cX7_removePunch 3 = .ok (.invokevirtual 102, 3) := by decide +kernel
theorem dX7_removePunch_6 : decode cX7_removePunch 6 = .ok (.ifCond .ne 7, 3) := by decide +kernel
theorem dX7_removePunch_9 : decode cX7_removePunch 9 = .ok (.iconst 1, 1) := by decide +kernel
theorem dX7_removePunch_10 : decode cX7_removePunch 10 = .ok (.goto 17, 3) := by decide +kernel
theorem dX7_removePunch_13 : decode cX7_removePunch 13 = .ok (.aload_n 0, 1) := by decide +kernel
theorem dX7_removePunch_14 : decode cX7_removePunch 14 = .ok (.iload_n 1, 1) := by decide +kernel
theorem dX7_removePunch_15 : decode cX7_removePunch 15 = .ok (.iload_n 2, 1) := by decide +kernel
theorem dX7_removePunch_16 : decode cX7_removePunch 16 = .ok (.invokevirtual 110, 3) := by decide +kernel
theorem dX7_removePunch_19 : decode cX7_removePunch 19 = .ok (.ifCond .eq 7, 3) := by decide +kernel
theorem dX7_removePunch_22 : decode cX7_removePunch 22 = .ok (.iconst 0, 1) := by decide +kernel
theorem dX7_removePunch_23 : decode cX7_removePunch 23 = .ok (.goto 4, 3) := by decide +kernel
theorem dX7_removePunch_26 : decode cX7_removePunch 26 = .ok (.iconst 2, 1) := by decide +kernel
theorem dX7_removePunch_27 : decode cX7_removePunch 27 = .ok (.putfield 90, 3) := by decide +kernel
theorem dX7_removePunch_30 : decode cX7_removePunch 30 = .ok (.aload_n 0, 1) := by decide +kernel
theorem dX7_removePunch_31 : decode cX7_removePunch 31 = .ok (.getfield 90, 3) := by decide +kernel
theorem dX7_removePunch_34 : decode cX7_removePunch 34 = .ok (.ifCond .le 5, 3) := by decide +kernel
theorem dX7_removePunch_37 : decode cX7_removePunch 37 = .ok (.iconst 0, 1) := by decide +kernel
theorem dX7_removePunch_38 : decode cX7_removePunch 38 = .ok (.ireturn, 1) := by decide +kernel
theorem dX7_removePunch_39 : decode cX7_removePunch 39 = .ok (.aload_n 0, 1) := by decide +kernel
theorem dX7_removePunch_40 : decode cX7_removePunch 40 = .ok (.iload_n 1, 1) := by decide +kernel
theorem dX7_removePunch_41 : decode cX7_removePunch 41 = .ok (.iload_n 2, 1) := by decide +kernel
theorem dX7_removePunch_42 : decode cX7_removePunch 42 = .ok (.invokevirtual 106, 3) := by decide +kernel
theorem dX7_removePunch_45 : decode cX7_removePunch 45 = .ok (.istore_n 3, 1) := by decide +kernel
theorem dX7_removePunch_46 : decode cX7_removePunch 46 = .ok (.aload_n 0, 1) := by decide +kernel
theorem dX7_removePunch_47 : decode cX7_removePunch 47 = .ok (.getfield 26, 3) := by decide +kernel
theorem dX7_removePunch_50 : decode cX7_removePunch 50 = .ok (.bipush 41, 2) := by decide +kernel
theorem dX7_removePunch_52 : decode cX7_removePunch 52 = .ok (.iload_n 1, 1) := by decide +kernel
theorem dX7_removePunch_53 : decode cX7_removePunch 53 = .ok (.imul, 1) := by decide +kernel
theorem dX7_removePunch_54 : decode cX7_removePunch 54 = .ok (.iload_n 3, 1) := by decide +kernel
theorem dX7_removePunch_55 : decode cX7_removePunch 55 = .ok (.iadd, 1) := by decide +kernel
theorem dX7_removePunch_56 : decode cX7_removePunch 56 = .ok (.baload, 1) := by decide +kernel
theorem dX7_removePunch_57 : decode cX7_removePunch 57 = .ok (.istore 4, 2) := by decide +kernel
theorem dX7_removePunch_59 : decode cX7_removePunch 59 = .ok (.aload_n 0, 1) := by decide +kernel
theorem dX7_removePunch_60 : decode cX7_removePunch 60 = .ok (.getfield 20, 3) := by decide +kernel
theorem dX7_removePunch_63 : decode cX7_removePunch 63 = .ok (.iload_n 1, 1) := by decide +kernel
theorem dX7_removePunch_64 : decode cX7_removePunch 64 = .ok (.dup2, 1) := by decide +kernel
theorem dX7_removePunch_65 : decode cX7_removePunch 65 = .ok (.iaload, 1) := by decide +kernel
theorem dX7_removePunch_66 : decode cX7_removePunch 66 = .ok (.iconst 1, 1) := by decide +kernel
theorem dX7_removePunch_67 : decode cX7_removePunch 67 = .ok (.isub, 1) := by decide +kernel
theorem dX7_removePunch_68 : decode cX7_removePunch 68 = .ok (.iastore, 1) := by decide +kernel
theorem dX7_removePunch_69 : decode cX7_removePunch 69 = .ok (.iload_n 3, 1) := by decide +kernel
theorem dX7_removePunch_70 : decode cX7_removePunch 70 = .ok (.istore 5, 2) := by decide +kernel
theorem dX7_removePunch_72 : decode cX7_removePunch 72 = .ok (.iload 5, 2) := by decide +kernel
theorem dX7_removePunch_74 : decode cX7_removePunch 74 = .ok (.aload_n 0, 1) := by decide +kernel
theorem dX7_removePunch_75 : decode cX7_removePunch 75 = .ok (.getfield 20, 3) := by decide +kernel
theorem dX7_removePunch_78 : decode cX7_removePunch 78 = .ok (.iload_n 1, 1) := by decide +kernel
theorem dX7_removePunch_79 : decode cX7_removePunch 79 = .ok (.iaload, 1) := by decide +kernel
theorem dX7_removePunch_80 : decode cX7_removePunch 80 = .ok (.if_icmp .ge 61, 3) := by decide +kernel
theorem dX7_removePunch_83 : decode cX7_removePunch 83 = .ok (.aload_n 0, 1) := by decide +kernel
theorem dX7_removePunch_84 : decode cX7_removePunch 84 = .ok (.getfield 23, 3) := by decide +kernel
theorem dX7_removePunch_87 : decode cX7_removePunch 87 = .ok (.bipush 41, 2) := by decide +kernel
theorem dX7_removePunch_89 : decode cX7_removePunch 89 = .ok (.iload_n 1, 1) := by decide +kernel
theorem dX7_removePunch_90 : decode cX7_removePunch 90 = .ok (.imul, 1) := by decide +kernel
theorem dX7_removePunch_91 : decode cX7_removePunch 91 = .ok (.iload 5, 2) := by decide +kernel
theorem dX7_removePunch_93 : decode cX7_removePunch 93 = .ok (.iadd, 1) := by decide +kernel
theorem dX7_removePunch_94 : decode cX7_removePunch 94 = .ok (.aload_n 0, 1) := by decide +kernel
theorem dX7_removePunch_95 : decode cX7_removePunch 95 = .ok (.getfield 23, 3) := by decide +kernel
theorem dX7_removePunch_98 : decode cX7_removePunch 98 = .ok (.bipush 41, 2) := by decide +kernel
theorem dX7_removePunch_100 : decode cX7_removePunch 100 = .ok (.iload_n 1, 1) := by decide +kernel
theorem dX7_removePunch_101 : decode cX7_removePunch 101 = .ok (.imul, 1) := by decide +kernel
theorem dX7_removePunch_102 : decode cX7_removePunch 102 = .ok (.iload 5, 2) := by decide +kernel
theorem dX7_removePunch_104 : decode cX7_removePunch 104 = .ok (.iadd, 1) := by decide +kernel
theorem dX7_removePunch_105 : decode cX7_removePunch 105 = .ok (.iconst 1, 1) := by decide +kernel
theorem dX7_removePunch_106 : decode cX7_removePunch 106 = .ok (.iadd, 1) := by decide +kernel
theorem dX7_removePunch_107 : decode cX7_removePunch 107 = .ok (.iaload, 1) := by decide +kernel
theorem dX7_removePunch_108 : decode cX7_removePunch 108 = .ok (.iastore, 1) := by decide +kernel
theorem dX7_removePunch_109 : decode cX7_removePunch 109 = .ok (.aload_n 0, 1) := by decide +kernel
theorem dX7_removePunch_110 : decode cX7_removePunch 110 = .ok (.getfield 26, 3) := by decide +kernel
theorem dX7_removePunch_113 : decode cX7_removePunch 113 = .ok (.bipush 41, 2) := by decide +kernel
theorem dX7_removePunch_115 : decode cX7_removePunch 115 = .ok (.iload_n 1, 1) := by decide +kernel
theorem dX7_removePunch_116 : decode cX7_removePunch 116 = .ok (.imul, 1) := by decide +kernel
theorem dX7_removePunch_117 : decode cX7_removePunch 117 = .ok (.iload 5, 2) := by decide +kernel
theorem dX7_removePunch_119 : decode cX7_removePunch 119 = .ok (.iadd, 1) := by decide +kernel
theorem dX7_removePunch_120 : decode cX7_removePunch 120 = .ok (.aload_n 0, 1) := by decide +kernel
theorem dX7_removePunch_121 : decode cX7_removePunch 121 = .ok (.getfield 26, 3) := by decide +kernel
theorem dX7_removePunch_124 : decode cX7_removePunch 124 = .ok (.bipush 41, 2) := by decide +kernel
theorem dX7_removePunch_126 : decode cX7_removePunch 126 = .ok (.iload_n 1, 1) := by decide +kernel
theorem dX7_removePunch_127 : decode cX7_removePunch 127 = .ok (.imul, 1) := by decide +kernel
theorem dX7_removePunch_128 : decode cX7_removePunch 128 = .ok (.iload 5, 2) := by decide +kernel
theorem dX7_removePunch_130 : decode cX7_removePunch 130 = .ok (.iadd, 1) := by decide +kernel
theorem dX7_removePunch_131 : decode cX7_removePunch 131 = .ok (.iconst 1, 1) := by decide +kernel
theorem dX7_removePunch_132 : decode cX7_removePunch 132 = .ok (.iadd, 1) := by decide +kernel
theorem dX7_removePunch_133 : decode cX7_removePunch 133 = .ok (.baload, 1) := by decide +kernel
theorem dX7_removePunch_134 : decode cX7_removePunch 134 = .ok (.bastore, 1) := by decide +kernel
theorem dX7_removePunch_135 : decode cX7_removePunch 135 = .ok (.iinc 5 1, 3) := by decide +kernel
theorem dX7_removePunch_138 : decode cX7_removePunch 138 = .ok (.goto (-66), 3) := by decide +kernel
theorem dX7_removePunch_141 : decode cX7_removePunch 141 = .ok (.iload 4, 2) := by decide +kernel
theorem dX7_removePunch_143 : decode cX7_removePunch 143 = .ok (.ireturn, 1) := by decide +kernel
theorem dX7_puts_0 : decode cX7_puts 0 = .ok (.aload_n 0, 1) := by decide +kernel
theorem dX7_puts_1 : decode cX7_puts 1 = .ok (.aload_n 0, 1) := by decide +kernel
theorem dX7_puts_2 : decode cX7_puts 2 = .ok (.iload_n 1, 1) := by decide +kernel
theorem dX7_puts_3 : decode cX7_puts 3 = .ok (.invokevirtual 102, 3) := by decide +kernel
theorem dX7_puts_6 : decode cX7_puts 6 = .ok (.ifCond .ne 7, 3) := by decide +kernel
theorem dX7_puts_9 : decode cX7_puts 9 = .ok (.iconst 1, 1) := by decide +kernel
theorem dX7_puts_10 : decode cX7_puts 10 = .ok (.goto 44, 3) := by decide +kernel
theorem dX7_puts_13 : decode cX7_puts 13 = .ok (.iload_n 2, 1) := by decide +kernel
theorem dX7_puts_14 : decode cX7_puts 14 = .ok (.iconst 0, 1) := by decide +kernel
theorem dX7_puts_15 : decode cX7_puts 15 = .ok (.sipush 10079, 3) := by decide +kernel
theorem dX7_puts_18 : decode cX7_puts 18 = .ok (.invokestatic 97, 3) := by decide +kernel
theorem dX7_puts_21 : decode cX7_puts 21 = .ok (.ifCond .eq 15, 3) := by decide +kernel
theorem dX7_puts_24 : decode cX7_puts 24 = .ok (.iload_n 3, 1) := by decide +kernel
theorem dX7_puts_25 : decode cX7_puts 25 = .ok (.iload_n 2, 1) := by decide +kernel
theorem dX7_puts_26 : decode cX7_puts 26 = .ok (.if_icmp .le 10, 3) := by decide +kernel
theorem dX7_puts_29 : decode cX7_puts 29 = .ok (.iload_n 3, 1) := by decide +kernel
theorem dX7_puts_30 : decode cX7_puts 30 = .ok (.sipush 10080, 3) := by decide +kernel
theorem dX7_puts_33 : decode cX7_puts 33 = .ok (.if_icmp .le 7, 3) := by decide +kernel
theorem dX7_puts_36 : decode cX7_puts 36 = .ok (.iconst 2, 1) := by decide +kernel
theorem dX7_puts_37 : decode cX7_puts 37 = .ok (.goto 17, 3) := by decide +kernel
theorem dX7_puts_40 : decode cX7_puts 40 = .ok (.aload 4, 2) := by decide +kernel
theorem dX7_puts_42 : decode cX7_puts 42 = .ok (.iload_n 1, 1) := by decide +kernel
theorem dX7_puts_43 : decode cX7_puts 43 = .ok (.iaload, 1) := by decide +kernel
theorem dX7_puts_44 : decode cX7_puts 44 = .ok (.bipush 20, 2) := by decide +kernel
theorem dX7_puts_46 : decode cX7_puts 46 = .ok (.if_icmp .ne 7, 3) := by decide +kernel
theorem dX7_puts_49 : decode cX7_puts 49 = .ok (.iconst 3, 1) := by decide +kernel
theorem dX7_puts_50 : decode cX7_puts 50 = .ok (.goto 4, 3) := by decide +kernel
theorem dX7_puts_53 : decode cX7_puts 53 = .ok (.iconst 0, 1) := by decide +kernel
theorem dX7_puts_54 : decode cX7_puts 54 = .ok (.putfield 90, 3) := by decide +kernel
theorem dX7_puts_57 : decode cX7_puts 57 = .ok (.aload_n 0, 1) := by decide +kernel
theorem dX7_puts_58 : decode cX7_puts 58 = .ok (.getfield 90, 3) := by decide +kernel
theorem dX7_puts_61 : decode cX7_puts 61 = .ok (.ifCond .le 5, 3) := by decide +kernel
theorem dX7_puts_64 : decode cX7_puts 64 = .ok (.iconst 0, 1) := by decide +kernel
theorem dX7_puts_65 : decode cX7_puts 65 = .ok (.ireturn, 1) := by decide +kernel
theorem dX7_puts_66 : decode cX7_puts 66 = .ok (.aload 5, 2) := by decide +kernel
theorem dX7_puts_68 : decode cX7_puts 68 = .ok (.bipush 20, 2) := by decide +kernel
theorem dX7_puts_70 : decode cX7_puts 70 = .ok (.iload_n 1, 1) := by decide +kernel
theorem dX7_puts_71 : decode cX7_puts 71 = .ok (.imul, 1) := by decide +kernel
theorem dX7_puts_72 : decode cX7_puts 72 = .ok (.aload 4, 2) := by decide +kernel
theorem dX7_puts_74 : decode cX7_puts 74 = .ok (.iload_n 1, 1) := by decide +kernel
theorem dX7_puts_75 : decode cX7_puts 75 = .ok (.iaload, 1) := by decide +kernel
theorem dX7_puts_76 : decode cX7_puts 76 = .ok (.iadd, 1) := by decide +kernel
theorem dX7_puts_77 : decode cX7_puts 77 = .ok (.iload_n 2, 1) := by decide +kernel
theorem dX7_puts_78 : decode cX7_puts 78 = .ok (.iastore, 1) := by decide +kernel
theorem dX7_puts_79 : decode cX7_puts 79 = .ok (.aload 6, 2) := by decide +kernel
theorem dX7_puts_81 : decode cX7_puts 81 = .ok (.bipush 20, 2) := by decide +kernel
theorem dX7_puts_83 : decode cX7_puts 83 = .ok (.iload_n 1, 1) := by decide +kernel
theorem dX7_puts_84 : decode cX7_puts 84 = .ok (.imul, 1) := by decide +kernel
theorem dX7_puts_85 : decode cX7_puts 85 = .ok (.aload 4, 2) := by decide +kernel
theorem dX7_puts_87 : decode cX7_puts 87 = .ok (.iload_n 1, 1) := by decide +kernel
theorem dX7_puts_88 : decode cX7_puts 88 = .ok (.iaload, 1) := by decide +kernel
theorem dX7_puts_89 : decode cX7_puts 89 = .ok (.iadd, 1) := by decide +kernel
theorem dX7_puts_90 : decode cX7_puts 90 = .ok (.iload_n 3, 1) := by decide +kernel
theorem dX7_puts_91 : decode cX7_puts 91 = .ok (.iastore, 1) := by decide +kernel
theorem dX7_puts_92 : decode cX7_puts 92 = .ok (.aload 4, 2) := by decide +kernel
theorem dX7_puts_94 : decode cX7_puts 94 = .ok (.iload_n 1, 1) := by decide +kernel
theorem dX7_puts_95 : decode cX7_puts 95 = .ok (.dup2, 1) := by decide +kernel
theorem dX7_puts_96 : decode cX7_puts 96 = .ok (.iaload, 1) := by decide +kernel
theorem dX7_puts_97 : decode cX7_puts 97 = .ok (.iconst 1, 1) := by decide +kernel
theorem dX7_puts_98 : decode cX7_puts 98 = .ok (.iadd, 1) := by decide +kernel
theorem dX7_puts_99 : decode cX7_puts 99 = .ok (.iastore, 1) := by decide +kernel
theorem dX7_puts_100 : decode cX7_puts 100 = .ok (.aload 4, 2) := by decide +kernel
theorem dX7_puts_102 : decode cX7_puts 102 = .ok (.iload_n 1, 1) := by decide +kernel
theorem dX7_puts_103 : decode cX7_puts 103 = .ok (.iaload, 1) := by decide +kernel
theorem dX7_puts_104 : decode cX7_puts 104 = .ok (.iconst 1, 1) := by decide +kernel
theorem dX7_puts_105 : decode cX7_puts 105 = .ok (.isub, 1) := by decide +kernel
theorem dX7_puts_106 : decode cX7_puts 106 = .ok (.ireturn, 1) := by decide +kernel
theorem dX7_takes_0 : decode cX7_takes 0 = .ok (.aload_n 0, 1) := by decide +kernel
theorem dX7_takes_1 : decode cX7_takes 1 = .ok (.aload_n 0, 1) := by decide +kernel
theorem dX7_takes_2 : decode cX7_takes 2 = .ok (.iload_n 1, 1) := by decide +kernel
theorem dX7_takes_3 : decode cX7_takes 3 = .ok (.invokevirtual 102, 3) := by decide +kernel
theorem dX7_takes_6 : decode cX7_takes 6 = .ok (.ifCond .eq 20, 3) := by decide +kernel
theorem dX7_takes_9 : decode cX7_takes 9 = .ok (.iload_n 2, 1) := by decide +kernel
theorem dX7_takes_10 : decode cX7_takes 10 = .ok (.iconst 0, 1) := by decide +kernel
theorem dX7_takes_11 : decode cX7_takes 11 = .ok (.aload_n 3, 1) := by decide +kernel
theorem dX7_takes_12 : decode cX7_takes 12 = .ok (.iload_n 1, 1) := by decide +kernel
theorem dX7_takes_13 : decode cX7_takes 13 = .ok (.iaload, 1) := by decide +kernel
theorem dX7_takes_14 : decode cX7_takes 14 = .ok (.iconst 1, 1) := by decide +kernel
theorem dX7_takes_15 : decode cX7_takes 15 = .ok (.isub, 1) := by decide +kernel
theorem dX7_takes_16 : decode cX7_takes 16 = .ok (.invokestatic 97, 3) := by decide +kernel
theorem dX7_takes_19 : decode cX7_takes 19 = .ok (.ifCond .eq 7, 3) := by decide +kernel
theorem dX7_takes_22 : decode cX7_takes 22 = .ok (.iconst 0, 1) := by decide +kernel
theorem dX7_takes_23 : decode cX7_takes 23 = .ok (.goto 4, 3) := by decide +kernel
theorem dX7_takes_26 : decode cX7_takes 26 = .ok (.iconst 1, 1) := by decide +kernel
theorem dX7_takes_27 : decode cX7_takes 27 = .ok (.putfield 90, 3) := by decide +kernel
theorem dX7_takes_30 : decode cX7_takes 30 = .ok (.aload_n 0, 1) := by decide +kernel
theorem dX7_takes_31 : decode cX7_takes 31 = .ok (.getfield 90, 3) := by decide +kernel
theorem dX7_takes_34 : decode cX7_takes 34 = .ok (.ifCond .le 5, 3) := by decide +kernel
theorem dX7_takes_37 : decode cX7_takes 37 = .ok (.iconst 0, 1) := by decide +kernel
theorem dX7_takes_38 : decode cX7_takes 38 = .ok (.ireturn, 1) := by decide +kernel
theorem dX7_takes_39 : decode cX7_takes 39 = .ok (.aload_n 3, 1) := by decide +kernel
theorem dX7_takes_40 : decode cX7_takes 40 = .ok (.iload_n 1, 1) := by decide +kernel
theorem dX7_takes_41 : decode cX7_takes 41 = .ok (.dup2, 1) := by decide +kernel
theorem dX7_takes_42 : decode cX7_takes 42 = .ok (.iaload, 1) := by decide +kernel
theorem dX7_takes_43 : decode cX7_takes 43 = .ok (.iconst 1, 1) := by decide +kernel
theorem dX7_takes_44 : decode cX7_takes 44 = .ok (.isub, 1) := by decide +kernel
theorem dX7_takes_45 : decode cX7_takes 45 = .ok (.iastore, 1) := by decide +kernel
theorem dX7_takes_46 : decode cX7_takes 46 = .ok (.bipush 20, 2) := by decide +kernel
theorem dX7_takes_48 : decode cX7_takes 48 = .ok (.iload_n 1, 1) := by decide +kernel
theorem dX7_takes_49 : decode cX7_takes 49 = .ok (.imul, 1) := by decide +kernel
theorem dX7_takes_50 : decode cX7_takes 50 = .ok (.iload_n 2, 1) := by decide +kernel
theorem dX7_takes_51 : decode cX7_takes 51 = .ok (.iadd, 1) := by decide +kernel
theorem dX7_takes_52 : decode cX7_takes 52 = .ok (.istore 6, 2) := by decide +kernel
theorem dX7_takes_54 : decode cX7_takes 54 = .ok (.iload 6, 2) := by decide +kernel
theorem dX7_takes_56 : decode cX7_takes 56 = .ok (.bipush 20, 2) := by decide +kernel
theorem dX7_takes_58 : decode cX7_takes 58 = .ok (.iload_n 1, 1) := by decide +kernel
theorem dX7_takes_59 : decode cX7_takes 59 = .ok (.imul, 1) := by decide +kernel
theorem dX7_takes_60 : decode cX7_takes 60 = .ok (.aload_n 3, 1) := by decide +kernel
theorem dX7_takes_61 : decode cX7_takes 61 = .ok (.iload_n 1, 1) := by decide +kernel
theorem dX7_takes_62 : decode cX7_takes 62 = .ok (.iaload, 1) := by decide +kernel
theorem dX7_takes_63 : decode cX7_takes 63 = .ok (.iadd, 1) := by decide +kernel
theorem dX7_takes_64 : decode cX7_takes 64 = .ok (.if_icmp .ge 33, 3) := by decide +kernel
theorem dX7_takes_67 : decode cX7_takes 67 = .ok (.aload 4, 2) := by decide +kernel
theorem dX7_takes_69 : decode cX7_takes 69 = .ok (.iload 6, 2) := by decide +kernel
theorem dX7_takes_71 : decode cX7_takes 71 = .ok (.aload 4, 2) := by decide +kernel
theorem dX7_takes_73 : decode cX7_takes 73 = .ok (.iload 6, 2) := by decide +kernel
theorem dX7_takes_75 : decode cX7_takes 75 = .ok (.iconst 1, 1) := by decide +kernel
theorem dX7_takes_76 : decode cX7_takes 76 = .ok (.iadd, 1) := by decide +kernel
theorem dX7_takes_77 : decode cX7_takes 77 = .ok (.iaload, 1) := by decide +kernel
theorem dX7_takes_78 : decode cX7_takes 78 = .ok (.iastore, 1) := by decide +kernel
theorem dX7_takes_79 : decode cX7_takes 79 = .ok (.aload 5, 2) := by decide +kernel
theorem dX7_takes_81 : decode cX7_takes 81 = .ok (.iload 6, 2) := by decide +kernel
theorem dX7_takes_83 : decode cX7_takes 83 = .ok (.aload 5, 2) := by decide +kernel
theorem dX7_takes_85 : decode cX7_takes 85 = .ok (.iload 6, 2) := by decide +kernel
theorem dX7_takes_87 : decode cX7_takes 87 = .ok (.iconst 1, 1) := by decide +kernel
theorem dX7_takes_88 : decode cX7_takes 88 = .ok (.iadd, 1) := by decide +kernel
theorem dX7_takes_89 : decode cX7_takes 89 = .ok (.iaload, 1) := by decide +kernel
theorem dX7_takes_90 : decode cX7_takes 90 = .ok (.iastore, 1) := by decide +kernel
theorem dX7_takes_91 : decode cX7_takes 91 = .ok (.iinc 6 1, 3) := by decide +kernel
theorem dX7_takes_94 : decode cX7_takes 94 = .ok (.goto (-40), 3) := by decide +kernel
theorem dX7_takes_97 : decode cX7_takes 97 = .ok (.aload_n 3, 1) := by decide +kernel
theorem dX7_takes_98 : decode cX7_takes 98 = .ok (.iload_n 1, 1) := by decide +kernel
theorem dX7_takes_99 : decode cX7_takes 99 = .ok (.iaload, 1) := by decide +kernel
theorem dX7_takes_100 : decode cX7_takes 100 = .ok (.ireturn, 1) := by decide +kernel
theorem dX7_enter_0 : decode cX7_enter 0 = .ok (.aload_n 0, 1) := by decide +kernel
theorem dX7_enter_1 : decode cX7_enter 1 = .ok (.iload_n 1, 1) := by decide +kernel
theorem dX7_enter_2 : decode cX7_enter 2 = .ok (.iload_n 2, 1) := by decide +kernel
theorem dX7_enter_3 : decode cX7_enter 3 = .ok (.iload_n 3, 1) := by decide +kernel
theorem dX7_enter_4 : decode cX7_enter 4 = .ok (.aload_n 0, 1) := by decide +kernel
theorem dX7_enter_5 : decode cX7_enter 5 = .ok (.getfield 30, 3) := by decide +kernel
theorem dX7_enter_8 : decode cX7_enter 8 = .ok (.aload_n 0, 1) := by decide +kernel
theorem dX7_enter_9 : decode cX7_enter 9 = .ok (.getfield 33, 3) := by decide +kernel
theorem dX7_enter_12 : decode cX7_enter 12 = .ok (.aload_n 0, 1) := by decide +kernel
theorem dX7_enter_13 : decode cX7_enter 13 = .ok (.getfield 36, 3) := by decide +kernel
theorem dX7_enter_16 : decode cX7_enter 16 = .ok (.invokevirtual 114, 3) := by decide +kernel
theorem dX7_enter_19 : decode cX7_enter 19 = .ok (.ireturn, 1) := by decide +kernel
theorem dX7_removeEntry_0 : decode cX7_removeEntry 0 = .ok (.aload_n 0, 1) := by decide +kernel
theorem dX7_removeEntry_1 : decode cX7_removeEntry 1 = .ok (.iload_n 1, 1) := by decide +kernel
theorem dX7_removeEntry_2 : decode cX7_removeEntry 2 = .ok (.iload_n 2, 1) := by decide +kernel
theorem dX7_removeEntry_3 : decode cX7_removeEntry 3 = .ok (.aload_n 0, 1) := by decide +kernel
theorem dX7_removeEntry_4 : decode cX7_removeEntry 4 = .ok (.getfield 30, 3) := by decide +kernel
theorem dX7_removeEntry_7 : decode cX7_removeEntry 7 = .ok (.aload_n 0, 1) := by decide +kernel
theorem dX7_removeEntry_8 : decode cX7_removeEntry 8 = .ok (.getfield 33, 3) := by decide +kernel
theorem dX7_removeEntry_11 : decode cX7_removeEntry 11 = .ok (.aload_n 0, 1) := by decide +kernel
theorem dX7_removeEntry_12 : decode cX7_removeEntry 12 = .ok (.getfield 36, 3) := by decide +kernel
theorem dX7_removeEntry_15 : decode cX7_removeEntry 15 = .ok (.invokevirtual 118, 3) := by decide +kernel
theorem dX7_removeEntry_18 : decode cX7_removeEntry 18 = .ok (.ireturn, 1) := by decide +kernel
theorem dX7_enterBreak_0 : decode cX7_enterBreak 0 = .ok (.aload_n 0, 1) := by decide +kernel
theorem dX7_enterBreak_1 : decode cX7_enterBreak 1 = .ok (.iload_n 1, 1) := by decide +kernel
theorem dX7_enterBreak_2 : decode cX7_enterBreak 2 = .ok (.iload_n 2, 1) := by decide +kernel
theorem dX7_enterBreak_3 : decode cX7_enterBreak 3 = .ok (.iload_n 3, 1) := by decide +kernel
theorem dX7_enterBreak_4 : decode cX7_enterBreak 4 = .ok (.aload_n 0, 1) := by decide +kernel
theorem dX7_enterBreak_5 : decode cX7_enterBreak 5 = .ok (.getfield 39, 3) := by decide +kernel
theorem dX7_enterBreak_8 : decode cX7_enterBreak 8 = .ok (.aload_n 0, 1) := by decide +kernel
theorem dX7_enterBreak_9 : decode cX7_enterBreak 9 = .ok (.getfield 42, 3) := by decide +kernel
theorem dX7_enterBreak_12 : decode cX7_enterBreak 12 = .ok (.aload_n 0, 1) := by decide +kernel
theorem dX7_enterBreak_13 : decode cX7_enterBreak 13 = .ok (.getfield 45, 3) := by decide +kernel
theorem dX7_enterBreak_16 : decode cX7_enterBreak 16 = .ok (.invokevirtual 114, 3) := by decide +kernel
theorem dX7_enterBreak_19 : decode cX7_enterBreak 19 = .ok (.ireturn, 1) := by decide +kernel
theorem dX7_removeBreak_0 : decode cX7_removeBreak 0 = .ok (.aload_n 0, 1) := by decide +kernel
theorem dX7_removeBreak_1 : decode cX7_removeBreak 1 = .ok (.iload_n 1, 1) := by decide +kernel
theorem dX7_removeBreak_2 : decode cX7_removeBreak 2 = .ok (.iload_n 2, 1) := by decide +kernel
theorem dX7_removeBreak_3 : decode cX7_removeBreak 3 = .ok (.aload_n 0, 1) := by decide +kernel
theorem dX7_removeBreak_4 : decode cX7_removeBreak 4 = .ok (.getfield 39, 3) := by decide +kernel
theorem dX7_removeBreak_7 : decode cX7_removeBreak 7 = .ok (.aload_n 0, 1) := by decide +kernel
theorem dX7_removeBreak_8 : decode cX7_removeBreak 8 = .ok (.getfield 42, 3) := by decide +kernel
theorem dX7_removeBreak_11 : decode cX7_removeBreak 11 = .ok (.aload_n 0, 1) := by decide +kernel
theorem dX7_removeBreak_12 : decode cX7_removeBreak 12 = .ok (.getfield 45, 3) := by decide +kernel
theorem dX7_removeBreak_15 : decode cX7_removeBreak 15 = .ok (.invokevirtual 118, 3) := by decide +kernel
theorem dX7_removeBreak_18 : decode cX7_removeBreak 18 = .ok (.ireturn, 1) := by decide +kernel
theorem dX7_addPremium_0 : decode cX7_addPremium 0 = .ok (.iload_n 1, 1) := by decide +kernel
theorem dX7_addPremium_1 : decode cX7_addPremium 1 = .ok (.iconst 1, 1) := by decide +kernel
theorem dX7_addPremium_2 : decode cX7_addPremium 2 = .ok (.bipush 127, 2) := by decide +kernel
theorem dX7_addPremium_4 : decode cX7_addPremium 4 = .ok (.invokestatic 97, 3) := by decide +kernel
theorem dX7_addPremium_7 : decode cX7_addPremium 7 = .ok (.ifCond .eq 41, 3) := by decide +kernel
theorem dX7_addPremium_10 : decode cX7_addPremium 10 = .ok (.iload_n 2, 1) := by decide +kernel
theorem dX7_addPremium_11 : decode cX7_addPremium 11 = .ok (.iconst 0, 1) := by decide +kernel
theorem dX7_addPremium_12 : decode cX7_addPremium 12 = .ok (.sipush 1439, 3) := by decide +kernel
theorem dX7_addPremium_15 : decode cX7_addPremium 15 = .ok (.invokestatic 97, 3) := by decide +kernel
theorem dX7_addPremium_18 : decode cX7_addPremium 18 = .ok (.ifCond .eq 30, 3) := by decide +kernel
theorem dX7_addPremium_21 : decode cX7_addPremium 21 = .ok (.iload_n 3, 1) := by decide +kernel
theorem dX7_addPremium_22 : decode cX7_addPremium 22 = .ok (.iconst 0, 1) := by decide +kernel
theorem dX7_addPremium_23 : decode cX7_addPremium 23 = .ok (.sipush 1439, 3) := by decide +kernel
theorem dX7_addPremium_26 : decode cX7_addPremium 26 = .ok (.invokestatic 97, 3) := by decide +kernel
theorem dX7_addPremium_29 : decode cX7_addPremium 29 = .ok (.ifCond .eq 19, 3) := by decide +kernel
theorem dX7_addPremium_32 : decode cX7_addPremium 32 = .ok (.iload 4, 2) := by decide +kernel
theorem dX7_addPremium_34 : decode cX7_addPremium 34 = .ok (.iconst 1, 1) := by decide +kernel
theorem dX7_addPremium_35 : decode cX7_addPremium 35 = .ok (.sipush 10000, 3) := by decide +kernel
theorem dX7_addPremium_38 : decode cX7_addPremium 38 = .ok (.invokestatic 97, 3) := by decide +kernel
theorem dX7_addPremium_41 : decode cX7_addPremium 41 = .ok (.ifCond .eq 7, 3) := by decide +kernel
theorem dX7_addPremium_44 : decode cX7_addPremium 44 = .ok (.iconst 1, 1) := by decide +kernel
theorem dX7_addPremium_45 : decode cX7_addPremium 45 = .ok (.goto 4, 3) := by decide +kernel
theorem dX7_addPremium_48 : decode cX7_addPremium 48 = .ok (.iconst 0, 1) := by decide +kernel
theorem dX7_addPremium_49 : decode cX7_addPremium 49 = .ok (.istore 5, 2) := by decide +kernel
theorem dX7_addPremium_51 : decode cX7_addPremium 51 = .ok (.aload_n 0, 1) := by decide +kernel
theorem dX7_addPremium_52 : decode cX7_addPremium 52 = .ok (.iload 5, 2) := by decide +kernel
theorem dX7_addPremium_54 : decode cX7_addPremium 54 = .ok (.ifCond .ne 7, 3) := by decide +kernel
theorem dX7_addPremium_57 : decode cX7_addPremium 57 = .ok (.iconst 1, 1) := by decide +kernel
theorem dX7_addPremium_58 : decode cX7_addPremium 58 = .ok (.goto 17, 3) := by decide +kernel
theorem dX7_addPremium_61 : decode cX7_addPremium 61 = .ok (.aload_n 0, 1) := by decide +kernel
theorem dX7_addPremium_62 : decode cX7_addPremium 62 = .ok (.getfield 122, 3) := by decide +kernel
theorem dX7_addPremium_65 : decode cX7_addPremium 65 = .ok (.bipush 6, 2) := by decide +kernel
theorem dX7_addPremium_67 : decode cX7_addPremium 67 = .ok (.if_icmp .ne 7, 3) := by decide +kernel
theorem dX7_addPremium_70 : decode cX7_addPremium 70 = .ok (.iconst 2, 1) := by decide +kernel
theorem dX7_addPremium_71 : decode cX7_addPremium 71 = .ok (.goto 4, 3) := by decide +kernel
theorem dX7_addPremium_74 : decode cX7_addPremium 74 = .ok (.iconst 0, 1) := by decide +kernel
theorem dX7_addPremium_75 : decode cX7_addPremium 75 = .ok (.putfield 90, 3) := by decide +kernel
theorem dX7_addPremium_78 : decode cX7_addPremium 78 = .ok (.aload_n 0, 1) := by decide +kernel
theorem dX7_addPremium_79 : decode cX7_addPremium 79 = .ok (.getfield 90, 3) := by decide +kernel
theorem dX7_addPremium_82 : decode cX7_addPremium 82 = .ok (.ifCond .le 5, 3) := by decide +kernel
theorem dX7_addPremium_85 : decode cX7_addPremium 85 = .ok (.iconst 0, 1) := by decide +kernel
theorem dX7_addPremium_86 : decode cX7_addPremium 86 = .ok (.ireturn, 1) := by decide +kernel
theorem dX7_addPremium_87 : decode cX7_addPremium 87 = .ok (.aload_n 0, 1) := by decide +kernel
theorem dX7_addPremium_88 : decode cX7_addPremium 88 = .ok (.getfield 48, 3) := by decide +kernel
theorem dX7_addPremium_91 : decode cX7_addPremium 91 = .ok (.aload_n 0, 1) := by decide +kernel
theorem dX7_addPremium_92 : decode cX7_addPremium 92 = .ok (.getfield 122, 3) := by decide +kernel
theorem dX7_addPremium_95 : decode cX7_addPremium 95 = .ok (.iload_n 1, 1) := by decide +kernel
theorem dX7_addPremium_96 : decode cX7_addPremium 96 = .ok (.iastore, 1) := by decide +kernel
theorem dX7_addPremium_97 : decode cX7_addPremium 97 = .ok (.aload_n 0, 1) := by decide +kernel
theorem dX7_addPremium_98 : decode cX7_addPremium 98 = .ok (.getfield 51, 3) := by decide +kernel
theorem dX7_addPremium_101 : decode cX7_addPremium 101 = .ok (.aload_n 0, 1) := by decide +kernel
theorem dX7_addPremium_102 : decode cX7_addPremium 102 = .ok (.getfield 122, 3) := by decide +kernel
theorem dX7_addPremium_105 : decode cX7_addPremium 105 = .ok (.iload_n 2, 1) := by decide +kernel
theorem dX7_addPremium_106 : decode cX7_addPremium 106 = .ok (.iastore, 1) := by decide +kernel
theorem dX7_addPremium_107 : decode cX7_addPremium 107 = .ok (.aload_n 0, 1) := by decide +kernel
theorem dX7_addPremium_108 : decode cX7_addPremium 108 = .ok (.getfield 54, 3) := by decide +kernel
theorem dX7_addPremium_111 : decode cX7_addPremium 111 = .ok (.aload_n 0, 1) := by decide +kernel
theorem dX7_addPremium_112 : decode cX7_addPremium 112 = .ok (.getfield 122, 3) := by decide +kernel
theorem dX7_addPremium_115 : decode cX7_addPremium 115 = .ok (.iload_n 3, 1) := by decide +kernel
theorem dX7_addPremium_116 : decode cX7_addPremium 116 = .ok (.iastore, 1) := by decide +kernel
theorem dX7_addPremium_117 : decode cX7_addPremium 117 = .ok (.aload_n 0, 1) := by decide +kernel
theorem dX7_addPremium_118 : decode cX7_addPremium 118 = .ok (.getfield 57, 3) := by decide +kernel
theorem dX7_addPremium_121 : decode cX7_addPremium 121 = .ok (.aload_n 0, 1) := by decide +kernel
theorem dX7_addPremium_122 : decode cX7_addPremium 122 = .ok (.getfield 122, 3) := by decide +kernel
theorem dX7_addPremium_125 : decode cX7_addPremium 125 = .ok (.iload 4, 2) := by decide +kernel
theorem dX7_addPremium_127 : decode cX7_addPremium 127 = .ok (.iastore, 1) := by decide +kernel
theorem dX7_addPremium_128 : decode cX7_addPremium 128 = .ok (.aload_n 0, 1) := by decide +kernel
theorem dX7_addPremium_129 : decode cX7_addPremium 129 = .ok (.dup, 1) := by decide +kernel
theorem dX7_addPremium_130 : decode cX7_addPremium 130 = .ok (.getfield 122, 3) := by decide +kernel
theorem dX7_addPremium_133 : decode cX7_addPremium 133 = .ok (.iconst 1, 1) := by decide +kernel
theorem dX7_addPremium_134 : decode cX7_addPremium 134 = .ok (.iadd, 1) := by decide +kernel
theorem dX7_addPremium_135 : decode cX7_addPremium 135 = .ok (.putfield 122, 3) := by decide +kernel
theorem dX7_addPremium_138 : decode cX7_addPremium 138 = .ok (.aload_n 0, 1) := by decide +kernel
theorem dX7_addPremium_139 : decode cX7_addPremium 139 = .ok (.getfield 122, 3) := by decide +kernel
theorem dX7_addPremium_142 : decode cX7_addPremium 142 = .ok (.iconst 1, 1) := by decide +kernel
theorem dX7_addPremium_143 : decode cX7_addPremium 143 = .ok (.isub, 1) := by decide +kernel
theorem dX7_addPremium_144 : decode cX7_addPremium 144 = .ok (.ireturn, 1) := by decide +kernel
theorem dX7_removePremium_0 : decode cX7_removePremium 0 = .ok (.aload_n 0, 1) := by decide +kernel
theorem dX7_removePremium_1 : decode cX7_removePremium 1 = .ok (.iload_n 1, 1) := by decide +kernel
theorem dX7_removePremium_2 : decode cX7_removePremium 2 = .ok (.iconst 0, 1) := by decide +kernel
theorem dX7_removePremium_3 : decode cX7_removePremium 3 = .ok (.aload_n 0, 1) := by decide +kernel
theorem dX7_removePremium_4 : decode cX7_removePremium 4 = .ok (.getfield 122, 3) := by decide +kernel
theorem dX7_removePremium_7 : decode cX7_removePremium 7 = .ok (.iconst 1, 1) := by decide +kernel
theorem dX7_removePremium_8 : decode cX7_removePremium 8 = .ok (.isub, 1) := by decide +kernel
theorem dX7_removePremium_9 : decode cX7_removePremium 9 = .ok (.invokestatic 97, 3) := by decide +kernel
theorem dX7_removePremium_12 : decode cX7_removePremium 12 = .ok (.ifCond .eq 7, 3) := by decide +kernel
theorem dX7_removePremium_15 : decode cX7_removePremium 15 = .ok (.iconst 0, 1) := by decide +kernel
theorem dX7_removePremium_16 : decode cX7_removePremium 16 = .ok (.goto 4, 3) := by decide +kernel
theorem dX7_removePremium_19 : decode cX7_removePremium 19 = .ok (.iconst 1, 1) := by decide +kernel
theorem dX7_removePremium_20 : decode cX7_removePremium 20 = .ok (.putfield 90, 3) := by decide +kernel
theorem dX7_removePremium_23 : decode cX7_removePremium 23 = .ok (.aload_n 0, 1) := by decide +kernel
theorem dX7_removePremium_24 : decode cX7_removePremium 24 = .ok (.getfield 90, 3) := by decide +kernel
theorem dX7_removePremium_27 : decode cX7_removePremium 27 = .ok (.ifCond .le 5, 3) := by decide +kernel
theorem dX7_removePremium_30 : decode cX7_removePremium 30 = .ok (.iconst 0, 1) := by decide +kernel
theorem dX7_removePremium_31 : decode cX7_removePremium 31 = .ok (.ireturn, 1) := by decide +kernel
theorem dX7_removePremium_32 : decode cX7_removePremium 32 = .ok (.aload_n 0, 1) := by decide +kernel
theorem dX7_removePremium_33 : decode cX7_removePremium 33 = .ok (.dup, 1) := by decide +kernel
theorem dX7_removePremium_34 : decode cX7_removePremium 34 = .ok (.getfield 122, 3) := by decide +kernel
theorem dX7_removePremium_37 : decode cX7_removePremium 37 = .ok (.iconst 1, 1) := by decide +kernel
theorem dX7_removePremium_38 : decode cX7_removePremium 38 = .ok (.isub, 1) := by decide +kernel
theorem dX7_removePremium_39 : decode cX7_removePremium 39 = .ok (.putfield 122, 3) := by decide +kernel
theorem dX7_removePremium_42 : decode cX7_removePremium 42 = .ok (.iload_n 1, 1) := by decide +kernel
theorem dX7_removePremium_43 : decode cX7_removePremium 43 = .ok (.istore_n 2, 1) := by decide +kernel
theorem dX7_removePremium_44 : decode cX7_removePremium 44 = .ok (.iload_n 2, 1) := by decide +kernel
theorem dX7_removePremium_45 : decode cX7_removePremium 45 = .ok (.aload_n 0, 1) := by decide +kernel
theorem dX7_removePremium_46 : decode cX7_removePremium 46 = .ok (.getfield 122, 3) := by decide +kernel
theorem dX7_removePremium_49 : decode cX7_removePremium 49 = .ok (.if_icmp .ge 65, 3) := by decide +kernel
theorem dX7_removePremium_52 : decode cX7_removePremium 52 = .ok (.aload_n 0, 1) := by decide +kernel
theorem dX7_removePremium_53 : decode cX7_removePremium 53 = .ok (.getfield 48, 3) := by decide +kernel
theorem dX7_removePremium_56 : decode cX7_removePremium 56 = .ok (.iload_n 2, 1) := by decide +kernel
theorem dX7_removePremium_57 : decode cX7_removePremium 57 = .ok (.aload_n 0, 1) := by decide +kernel
theorem dX7_removePremium_58 : decode cX7_removePremium 58 = .ok (.getfield 48, 3) := by decide +kernel
theorem dX7_removePremium_61 : decode cX7_removePremium 61 = .ok (.iload_n 2, 1) := by decide +kernel
theorem dX7_removePremium_62 : decode cX7_removePremium 62 = .ok (.iconst 1, 1) := by decide +kernel
theorem dX7_removePremium_63 : decode cX7_removePremium 63 = .ok (.iadd, 1) := by decide +kernel
theorem dX7_removePremium_64 : decode cX7_removePremium 64 = .ok (.iaload, 1) := by decide +kernel
theorem dX7_removePremium_65 : decode cX7_removePremium 65 = .ok (.iastore, 1) := by decide +kernel
theorem dX7_removePremium_66 : decode cX7_removePremium 66 = .ok (.aload_n 0, 1) := by decide +kernel
theorem dX7_removePremium_67 : decode cX7_removePremium 67 = .ok (.getfield 51, 3) := by decide +kernel
theorem dX7_removePremium_70 : decode cX7_removePremium 70 = .ok (.iload_n 2, 1) := by decide +kernel
theorem dX7_removePremium_71 : decode cX7_removePremium 71 = .ok (.aload_n 0, 1) := by decide +kernel
theorem dX7_removePremium_72 : decode cX7_removePremium 72 = .ok (.getfield 51, 3) := by decide +kernel
theorem dX7_removePremium_75 : decode cX7_removePremium 75 = .ok (.iload_n 2, 1) := by decide +kernel
theorem dX7_removePremium_76 : decode cX7_removePremium 76 = .ok (.iconst 1, 1) := by decide +kernel
theorem dX7_removePremium_77 : decode cX7_removePremium 77 = .ok (.iadd, 1) := by decide +kernel
theorem dX7_removePremium_78 : decode cX7_removePremium 78 = .ok (.iaload, 1) := by decide +kernel
theorem dX7_removePremium_79 : decode cX7_removePremium 79 = .ok (.iastore, 1) := by decide +kernel
theorem dX7_removePremium_80 : decode cX7_removePremium 80 = .ok (.aload_n 0, 1) := by decide +kernel
theorem dX7_removePremium_81 : decode cX7_removePremium 81 = .ok (.getfield 54, 3) := by decide +kernel
theorem dX7_removePremium_84 : decode cX7_removePremium 84 = .ok (.iload_n 2, 1) := by decide +kernel
theorem dX7_removePremium_85 : decode cX7_removePremium 85 = .ok (.aload_n 0, 1) := by decide +kernel
theorem dX7_removePremium_86 : decode cX7_removePremium 86 = .ok (.getfield 54, 3) := by decide +kernel
theorem dX7_removePremium_89 : decode cX7_removePremium 89 = .ok (.iload_n 2, 1) := by decide +kernel
theorem dX7_removePremium_90 : decode cX7_removePremium 90 = .ok (.iconst 1, 1) := by decide +kernel
theorem dX7_removePremium_91 : decode cX7_removePremium 91 = .ok (.iadd, 1) := by decide +kernel
theorem dX7_removePremium_92 : decode cX7_removePremium 92 = .ok (.iaload, 1) := by decide +kernel
theorem dX7_removePremium_93 : decode cX7_removePremium 93 = .ok (.iastore, 1) := by decide +kernel
theorem dX7_removePremium_94 : decode cX7_removePremium 94 = .ok (.aload_n 0, 1) := by decide +kernel
theorem dX7_removePremium_95 : decode cX7_removePremium 95 = .ok (.getfield 57, 3) := by decide +kernel
theorem dX7_removePremium_98 : decode cX7_removePremium 98 = .ok (.iload_n 2, 1) := by decide +kernel
theorem dX7_removePremium_99 : decode cX7_removePremium 99 = .ok (.aload_n 0, 1) := by decide +kernel
theorem dX7_removePremium_100 : decode cX7_removePremium 100 = .ok (.getfield 57, 3) := by decide +kernel
theorem dX7_removePremium_103 : decode cX7_removePremium 103 = .ok (.iload_n 2, 1) := by decide +kernel
theorem dX7_removePremium_104 : decode cX7_removePremium 104 = .ok (.iconst 1, 1) := by decide +kernel
theorem dX7_removePremium_105 : decode cX7_removePremium 105 = .ok (.iadd, 1) := by decide +kernel
theorem dX7_removePremium_106 : decode cX7_removePremium 106 = .ok (.iaload, 1) := by decide +kernel
theorem dX7_removePremium_107 : decode cX7_removePremium 107 = .ok (.iastore, 1) := by decide +kernel
theorem dX7_removePremium_108 : decode cX7_removePremium 108 = .ok (.iinc 2 1, 3) := by decide +kernel
theorem dX7_removePremium_111 : decode cX7_removePremium 111 = .ok (.goto (-67), 3) := by decide +kernel
theorem dX7_removePremium_114 : decode cX7_removePremium 114 = .ok (.aload_n 0, 1) := by decide +kernel
theorem dX7_removePremium_115 : decode cX7_removePremium 115 = .ok (.getfield 122, 3) := by decide +kernel
theorem dX7_removePremium_118 : decode cX7_removePremium 118 = .ok (.ireturn, 1) := by decide +kernel
theorem dX7_makes_0 : decode cX7_makes 0 = .ok (.aload_n 0, 1) := by decide +kernel
theorem dX7_makes_1 : decode cX7_makes 1 = .ok (.getfield 60, 3) := by decide +kernel
theorem dX7_makes_4 : decode cX7_makes 4 = .ok (.aload_n 0, 1) := by decide +kernel
theorem dX7_makes_5 : decode cX7_makes 5 = .ok (.getfield 125, 3) := by decide +kernel
theorem dX7_makes_8 : decode cX7_makes 8 = .ok (.iload_n 1, 1) := by decide +kernel
theorem dX7_makes_9 : decode cX7_makes 9 = .ok (.iastore, 1) := by decide +kernel
theorem dX7_makes_10 : decode cX7_makes 10 = .ok (.aload_n 0, 1) := by decide +kernel
theorem dX7_makes_11 : decode cX7_makes 11 = .ok (.getfield 63, 3) := by decide +kernel
theorem dX7_makes_14 : decode cX7_makes 14 = .ok (.aload_n 0, 1) := by decide +kernel
theorem dX7_makes_15 : decode cX7_makes 15 = .ok (.getfield 125, 3) := by decide +kernel
theorem dX7_makes_18 : decode cX7_makes 18 = .ok (.iload_n 2, 1) := by decide +kernel
theorem dX7_makes_19 : decode cX7_makes 19 = .ok (.iastore, 1) := by decide +kernel
theorem dX7_makes_20 : decode cX7_makes 20 = .ok (.aload_n 0, 1) := by decide +kernel
theorem dX7_makes_21 : decode cX7_makes 21 = .ok (.dup, 1) := by decide +kernel
theorem dX7_makes_22 : decode cX7_makes 22 = .ok (.getfield 128, 3) := by decide +kernel
theorem dX7_makes_25 : decode cX7_makes 25 = .ok (.iload_n 3, 1) := by decide +kernel
theorem dX7_makes_26 : decode cX7_makes 26 = .ok (.ifCond .eq 7, 3) := by decide +kernel
theorem dX7_makes_29 : decode cX7_makes 29 = .ok (.iconst 1, 1) := by decide +kernel
theorem dX7_makes_30 : decode cX7_makes 30 = .ok (.goto 4, 3) := by decide +kernel
theorem dX7_makes_33 : decode cX7_makes 33 = .ok (.iconst 0, 1) := by decide +kernel
theorem dX7_makes_34 : decode cX7_makes 34 = .ok (.iadd, 1) := by decide +kernel
theorem dX7_makes_35 : decode cX7_makes 35 = .ok (.putfield 128, 3) := by decide +kernel
theorem dX7_makes_38 : decode cX7_makes 38 = .ok (.aload_n 0, 1) := by decide +kernel
theorem dX7_makes_39 : decode cX7_makes 39 = .ok (.dup, 1) := by decide +kernel
theorem dX7_makes_40 : decode cX7_makes 40 = .ok (.getfield 125, 3) := by decide +kernel
theorem dX7_makes_43 : decode cX7_makes 43 = .ok (.iconst 1, 1) := by decide +kernel
theorem dX7_makes_44 : decode cX7_makes 44 = .ok (.iadd, 1) := by decide +kernel
theorem dX7_makes_45 : decode cX7_makes 45 = .ok (.putfield 125, 3) := by decide +kernel
theorem dX7_makes_48 : decode cX7_makes 48 = .ok (.return_, 1) := by decide +kernel
theorem dX7_findsShifts_0 : decode cX7_findsShifts 0 = .ok (.aload_n 0, 1) := by decide +kernel
theorem dX7_findsShifts_1 : decode cX7_findsShifts 1 = .ok (.iconst 0, 1) := by decide +kernel
theorem dX7_findsShifts_2 : decode cX7_findsShifts 2 = .ok (.putfield 125, 3) := by decide +kernel
theorem dX7_findsShifts_5 : decode cX7_findsShifts 5 = .ok (.aload_n 0, 1) := by decide +kernel
theorem dX7_findsShifts_6 : decode cX7_findsShifts 6 = .ok (.iconst 0, 1) := by decide +kernel
theorem dX7_findsShifts_7 : decode cX7_findsShifts 7 = .ok (.putfield 128, 3) := by decide +kernel
theorem dX7_findsShifts_10 : decode cX7_findsShifts 10 = .ok (.iconst 0, 1) := by decide +kernel
theorem dX7_findsShifts_11 : decode cX7_findsShifts 11 = .ok (.istore_n 2, 1) := by decide +kernel
theorem dX7_findsShifts_12 : decode cX7_findsShifts 12 = .ok (.iload_n 2, 1) := by decide +kernel
theorem dX7_findsShifts_13 : decode cX7_findsShifts 13 = .ok (.aload_n 0, 1) := by decide +kernel
theorem dX7_findsShifts_14 : decode cX7_findsShifts 14 = .ok (.getfield 20, 3) := by decide +kernel
theorem dX7_findsShifts_17 : decode cX7_findsShifts 17 = .ok (.iload_n 1, 1) := by decide +kernel
theorem dX7_findsShifts_18 : decode cX7_findsShifts 18 = .ok (.iaload, 1) := by decide +kernel
theorem dX7_findsShifts_19 : decode cX7_findsShifts 19 = .ok (.if_icmp .ge 233, 3) := by decide +kernel
theorem dX7_findsShifts_22 : decode cX7_findsShifts 22 = .ok (.aload_n 0, 1) := by decide +kernel
theorem dX7_findsShifts_23 : decode cX7_findsShifts 23 = .ok (.getfield 23, 3) := by decide +kernel
theorem dX7_findsShifts_26 : decode cX7_findsShifts 26 = .ok (.bipush 41, 2) := by decide +kernel
theorem dX7_findsShifts_28 : decode cX7_findsShifts 28 = .ok (.iload_n 1, 1) := by decide +kernel
theorem dX7_findsShifts_29 : decode cX7_findsShifts 29 = .ok (.imul, 1) := by decide +kernel
theorem dX7_findsShifts_30 : decode cX7_findsShifts 30 = .ok (.iload_n 2, 1) := by decide +kernel
theorem dX7_findsShifts_31 : decode cX7_findsShifts 31 = .ok (.iadd, 1) := by decide +kernel
theorem dX7_findsShifts_32 : decode cX7_findsShifts 32 = .ok (.iaload, 1) := by decide +kernel
theorem dX7_findsShifts_33 : decode cX7_findsShifts 33 = .ok (.istore_n 3, 1) := by decide +kernel
theorem dX7_findsShifts_34 : decode cX7_findsShifts 34 = .ok (.iload_n 2, 1) := by decide +kernel
theorem dX7_findsShifts_35 : decode cX7_findsShifts 35 = .ok (.iconst 1, 1) := by decide +kernel
theorem dX7_findsShifts_36 : decode cX7_findsShifts 36 = .ok (.iadd, 1) := by decide +kernel
theorem dX7_findsShifts_37 : decode cX7_findsShifts 37 = .ok (.aload_n 0, 1) := by decide +kernel
theorem dX7_findsShifts_38 : decode cX7_findsShifts 38 = .ok (.getfield 20, 3) := by decide +kernel
theorem dX7_findsShifts_41 : decode cX7_findsShifts 41 = .ok (.iload_n 1, 1) := by decide +kernel
theorem dX7_findsShifts_42 : decode cX7_findsShifts 42 = .ok (.iaload, 1) := by decide +kernel
theorem dX7_findsShifts_43 : decode cX7_findsShifts 43 = .ok (.if_icmp .ne 7, 3) := by decide +kernel
theorem dX7_findsShifts_46 : decode cX7_findsShifts 46 = .ok (.iconst 1, 1) := by decide +kernel
theorem dX7_findsShifts_47 : decode cX7_findsShifts 47 = .ok (.goto 4, 3) := by decide +kernel
theorem dX7_findsShifts_50 : decode cX7_findsShifts 50 = .ok (.iconst 0, 1) := by decide +kernel
theorem dX7_findsShifts_51 : decode cX7_findsShifts 51 = .ok (.istore 4, 2) := by decide +kernel
theorem dX7_findsShifts_53 : decode cX7_findsShifts 53 = .ok (.iload 4, 2) := by decide +kernel
theorem dX7_findsShifts_55 : decode cX7_findsShifts 55 = .ok (.ifCond .eq 9, 3) := by decide +kernel
theorem dX7_findsShifts_58 : decode cX7_findsShifts 58 = .ok (.sipush 10080, 3) := by decide +kernel
theorem dX7_findsShifts_61 : decode cX7_findsShifts 61 = .ok (.goto 16, 3) := by decide +kernel
theorem dX7_findsShifts_64 : decode cX7_findsShifts 64 = .ok (.aload_n 0, 1) := by decide +kernel
theorem dX7_findsShifts_65 : decode cX7_findsShifts 65 = .ok (.getfield 23, 3) := by decide +kernel
theorem dX7_findsShifts_68 : decode cX7_findsShifts 68 = .ok (.bipush 41, 2) := by decide +kernel
theorem dX7_findsShifts_70 : decode cX7_findsShifts 70 = .ok (.iload_n 1, 1) := by decide +kernel
theorem dX7_findsShifts_71 : decode cX7_findsShifts 71 = .ok (.imul, 1) := by decide +kernel
theorem dX7_findsShifts_72 : decode cX7_findsShifts 72 = .ok (.iload_n 2, 1) := by decide +kernel
theorem dX7_findsShifts_73 : decode cX7_findsShifts 73 = .ok (.iadd, 1) := by decide +kernel
theorem dX7_findsShifts_74 : decode cX7_findsShifts 74 = .ok (.iconst 1, 1) := by decide +kernel
theorem dX7_findsShifts_75 : decode cX7_findsShifts 75 = .ok (.iadd, 1) := by decide +kernel
theorem dX7_findsShifts_76 : decode cX7_findsShifts 76 = .ok (.iaload, 1) := by decide +kernel
theorem dX7_findsShifts_77 : decode cX7_findsShifts 77 = .ok (.istore 5, 2) := by decide +kernel
theorem dX7_findsShifts_79 : decode cX7_findsShifts 79 = .ok (.iload_n 2, 1) := by decide +kernel
theorem dX7_findsShifts_80 : decode cX7_findsShifts 80 = .ok (.ifCond .ne 7, 3) := by decide +kernel
theorem dX7_findsShifts_83 : decode cX7_findsShifts 83 = .ok (.iconst 1, 1) := by decide +kernel
theorem dX7_findsShifts_84 : decode cX7_findsShifts 84 = .ok (.goto 4, 3) := by decide +kernel
theorem dX7_findsShifts_87 : decode cX7_findsShifts 87 = .ok (.iconst 0, 1) := by decide +kernel
theorem dX7_findsShifts_88 : decode cX7_findsShifts 88 = .ok (.istore 6, 2) := by decide +kernel
theorem dX7_findsShifts_90 : decode cX7_findsShifts 90 = .ok (.iload 6, 2) := by decide +kernel
theorem dX7_findsShifts_92 : decode cX7_findsShifts 92 = .ok (.ifCond .eq 7, 3) := by decide +kernel
theorem dX7_findsShifts_95 : decode cX7_findsShifts 95 = .ok (.iconst 0, 1) := by decide +kernel
theorem dX7_findsShifts_96 : decode cX7_findsShifts 96 = .ok (.goto 16, 3) := by decide +kernel
theorem dX7_findsShifts_99 : decode cX7_findsShifts 99 = .ok (.aload_n 0, 1) := by decide +kernel
theorem dX7_findsShifts_100 : decode cX7_findsShifts 100 = .ok (.getfield 23, 3) := by decide +kernel
theorem dX7_findsShifts_103 : decode cX7_findsShifts 103 = .ok (.bipush 41, 2) := by decide +kernel
theorem dX7_findsShifts_105 : decode cX7_findsShifts 105 = .ok (.iload_n 1, 1) := by decide +kernel
theorem dX7_findsShifts_106 : decode cX7_findsShifts 106 = .ok (.imul, 1) := by decide +kernel
theorem dX7_findsShifts_107 : decode cX7_findsShifts 107 = .ok (.iload_n 2, 1) := by decide +kernel
theorem dX7_findsShifts_108 : decode cX7_findsShifts 108 = .ok (.iadd, 1) := by decide +kernel
theorem dX7_findsShifts_109 : decode cX7_findsShifts 109 = .ok (.iconst 1, 1) := by decide +kernel
theorem dX7_findsShifts_110 : decode cX7_findsShifts 110 = .ok (.isub, 1) := by decide +kernel
theorem dX7_findsShifts_111 : decode cX7_findsShifts 111 = .ok (.iaload, 1) := by decide +kernel
theorem dX7_findsShifts_112 : decode cX7_findsShifts 112 = .ok (.istore 7, 2) := by decide +kernel
theorem dX7_findsShifts_114 : decode cX7_findsShifts 114 = .ok (.aload_n 0, 1) := by decide +kernel
theorem dX7_findsShifts_115 : decode cX7_findsShifts 115 = .ok (.getfield 26, 3) := by decide +kernel
theorem dX7_findsShifts_118 : decode cX7_findsShifts 118 = .ok (.bipush 41, 2) := by decide +kernel
theorem dX7_findsShifts_120 : decode cX7_findsShifts 120 = .ok (.iload_n 1, 1) := by decide +kernel
theorem dX7_findsShifts_121 : decode cX7_findsShifts 121 = .ok (.imul, 1) := by decide +kernel
theorem dX7_findsShifts_122 : decode cX7_findsShifts 122 = .ok (.iload_n 2, 1) := by decide +kernel
theorem dX7_findsShifts_123 : decode cX7_findsShifts 123 = .ok (.iadd, 1) := by decide +kernel
theorem dX7_findsShifts_124 : decode cX7_findsShifts 124 = .ok (.baload, 1) := by decide +kernel
theorem dX7_findsShifts_125 : decode cX7_findsShifts 125 = .ok (.ifCond .eq 74, 3) := by decide +kernel
theorem dX7_findsShifts_128 : decode cX7_findsShifts 128 = .ok (.iload 4, 2) := by decide +kernel
theorem dX7_findsShifts_130 : decode cX7_findsShifts 130 = .ok (.ifCond .ne 23, 3) := by decide +kernel
theorem dX7_findsShifts_133 : decode cX7_findsShifts 133 = .ok (.aload_n 0, 1) := by decide +kernel
theorem dX7_findsShifts_134 : decode cX7_findsShifts 134 = .ok (.getfield 26, 3) := by decide +kernel
theorem dX7_findsShifts_137 : decode cX7_findsShifts 137 = .ok (.bipush 41, 2) := by decide +kernel
theorem dX7_findsShifts_139 : decode cX7_findsShifts 139 = .ok (.iload_n 1, 1) := by decide +kernel
theorem dX7_findsShifts_140 : decode cX7_findsShifts 140 = .ok (.imul, 1) := by decide +kernel
theorem dX7_findsShifts_141 : decode cX7_findsShifts 141 = .ok (.iload_n 2, 1) := by decide +kernel
theorem dX7_findsShifts_142 : decode cX7_findsShifts 142 = .ok (.iadd, 1) := by decide +kernel
theorem dX7_findsShifts_143 : decode cX7_findsShifts 143 = .ok (.iconst 1, 1) := by decide +kernel
theorem dX7_findsShifts_144 : decode cX7_findsShifts 144 = .ok (.iadd, 1) := by decide +kernel
theorem dX7_findsShifts_145 : decode cX7_findsShifts 145 = .ok (.baload, 1) := by decide +kernel
theorem dX7_findsShifts_146 : decode cX7_findsShifts 146 = .ok (.ifCond .ne 7, 3) := by decide +kernel
theorem dX7_findsShifts_149 : decode cX7_findsShifts 149 = .ok (.iconst 1, 1) := by decide +kernel
theorem dX7_findsShifts_150 : decode cX7_findsShifts 150 = .ok (.goto 4, 3) := by decide +kernel
theorem dX7_findsShifts_153 : decode cX7_findsShifts 153 = .ok (.iconst 0, 1) := by decide +kernel
theorem dX7_findsShifts_154 : decode cX7_findsShifts 154 = .ok (.istore 8, 2) := by decide +kernel
theorem dX7_findsShifts_156 : decode cX7_findsShifts 156 = .ok (.aload_n 0, 1) := by decide +kernel
theorem dX7_findsShifts_157 : decode cX7_findsShifts 157 = .ok (.iload_n 3, 1) := by decide +kernel
theorem dX7_findsShifts_158 : decode cX7_findsShifts 158 = .ok (.iload 8, 2) := by decide +kernel
theorem dX7_findsShifts_160 : decode cX7_findsShifts 160 = .ok (.ifCond .ne 13, 3) := by decide +kernel
theorem dX7_findsShifts_163 : decode cX7_findsShifts 163 = .ok (.iload 5, 2) := by decide +kernel
theorem dX7_findsShifts_165 : decode cX7_findsShifts 165 = .ok (.iload_n 3, 1) := by decide +kernel
theorem dX7_findsShifts_166 : decode cX7_findsShifts 166 = .ok (.isub, 1) := by decide +kernel
theorem dX7_findsShifts_167 : decode cX7_findsShifts 167 = .ok (.sipush 480, 3) := by decide +kernel
theorem dX7_findsShifts_170 : decode cX7_findsShifts 170 = .ok (.if_icmp .ge 8, 3) := by decide +kernel
theorem dX7_findsShifts_173 : decode cX7_findsShifts 173 = .ok (.iload 5, 2) := by decide +kernel
theorem dX7_findsShifts_175 : decode cX7_findsShifts 175 = .ok (.goto 8, 3) := by decide +kernel
theorem dX7_findsShifts_178 : decode cX7_findsShifts 178 = .ok (.iload_n 3, 1) := by decide +kernel
theorem dX7_findsShifts_179 : decode cX7_findsShifts 179 = .ok (.sipush 480, 3) := by decide +kernel
theorem dX7_findsShifts_182 : decode cX7_findsShifts 182 = .ok (.iadd, 1) := by decide +kernel
theorem dX7_findsShifts_183 : decode cX7_findsShifts 183 = .ok (.iload 8, 2) := by decide +kernel
theorem dX7_findsShifts_185 : decode cX7_findsShifts 185 = .ok (.ifCond .ne 7, 3) := by decide +kernel
theorem dX7_findsShifts_188 : decode cX7_findsShifts 188 = .ok (.iconst 1, 1) := by decide +kernel
theorem dX7_findsShifts_189 : decode cX7_findsShifts 189 = .ok (.goto 4, 3) := by decide +kernel
theorem dX7_findsShifts_192 : decode cX7_findsShifts 192 = .ok (.iconst 0, 1) := by decide +kernel
theorem dX7_findsShifts_193 : decode cX7_findsShifts 193 = .ok (.invokevirtual 131, 3) := by decide +kernel
theorem dX7_findsShifts_196 : decode cX7_findsShifts 196 = .ok (.goto 50, 3) := by decide +kernel
theorem dX7_findsShifts_199 : decode cX7_findsShifts 199 = .ok (.iload 6, 2) := by decide +kernel
theorem dX7_findsShifts_201 : decode cX7_findsShifts 201 = .ok (.ifCond .ne 19, 3) := by decide +kernel
theorem dX7_findsShifts_204 : decode cX7_findsShifts 204 = .ok (.aload_n 0, 1) := by decide +kernel
theorem dX7_findsShifts_205 : decode cX7_findsShifts 205 = .ok (.getfield 26, 3) := by decide +kernel
theorem dX7_findsShifts_208 : decode cX7_findsShifts 208 = .ok (.bipush 41, 2) := by decide +kernel
theorem dX7_findsShifts_210 : decode cX7_findsShifts 210 = .ok (.iload_n 1, 1) := by decide +kernel
theorem dX7_findsShifts_211 : decode cX7_findsShifts 211 = .ok (.imul, 1) := by decide +kernel
theorem dX7_findsShifts_212 : decode cX7_findsShifts 212 = .ok (.iload_n 2, 1) := by decide +kernel
theorem dX7_findsShifts_213 : decode cX7_findsShifts 213 = .ok (.iadd, 1) := by decide +kernel
theorem dX7_findsShifts_214 : decode cX7_findsShifts 214 = .ok (.iconst 1, 1) := by decide +kernel
theorem dX7_findsShifts_215 : decode cX7_findsShifts 215 = .ok (.isub, 1) := by decide +kernel
theorem dX7_findsShifts_216 : decode cX7_findsShifts 216 = .ok (.baload, 1) := by decide +kernel
theorem dX7_findsShifts_217 : decode cX7_findsShifts 217 = .ok (.ifCond .ne 29, 3) := by decide +kernel
theorem dX7_findsShifts_220 : decode cX7_findsShifts 220 = .ok (.aload_n 0, 1) := by decide +kernel
theorem dX7_findsShifts_221 : decode cX7_findsShifts 221 = .ok (.iload_n 3, 1) := by decide +kernel
theorem dX7_findsShifts_222 : decode cX7_findsShifts 222 = .ok (.iload 7, 2) := by decide +kernel
theorem dX7_findsShifts_224 : decode cX7_findsShifts 224 = .ok (.isub, 1) := by decide +kernel
theorem dX7_findsShifts_225 : decode cX7_findsShifts 225 = .ok (.sipush 480, 3) := by decide +kernel
theorem dX7_findsShifts_228 : decode cX7_findsShifts 228 = .ok (.if_icmp .ge 8, 3) := by decide +kernel
theorem dX7_findsShifts_231 : decode cX7_findsShifts 231 = .ok (.iload 7, 2) := by decide +kernel
theorem dX7_findsShifts_233 : decode cX7_findsShifts 233 = .ok (.goto 8, 3) := by decide +kernel
theorem dX7_findsShifts_236 : decode cX7_findsShifts 236 = .ok (.iload_n 3, 1) := by decide +kernel
theorem dX7_findsShifts_237 : decode cX7_findsShifts 237 = .ok (.sipush 480, 3) := by decide +kernel
theorem dX7_findsShifts_240 : decode cX7_findsShifts 240 = .ok (.isub, 1) := by decide +kernel
theorem dX7_findsShifts_241 : decode cX7_findsShifts 241 = .ok (.iload_n 3, 1) := by decide +kernel
theorem dX7_findsShifts_242 : decode cX7_findsShifts 242 = .ok (.iconst 1, 1) := by decide +kernel
theorem dX7_findsShifts_243 : decode cX7_findsShifts 243 = .ok (.invokevirtual 131, 3) := by decide +kernel
theorem dX7_findsShifts_246 : decode cX7_findsShifts 246 = .ok (.iinc 2 1, 3) := by decide +kernel
theorem dX7_findsShifts_249 : decode cX7_findsShifts 249 = .ok (.goto (-237), 3) := by decide +kernel
theorem dX7_findsShifts_252 : decode cX7_findsShifts 252 = .ok (.return_, 1) := by decide +kernel
theorem dX7_marks_0 : decode cX7_marks 0 = .ok (.aload_n 1, 1) := by decide +kernel
theorem dX7_marks_1 : decode cX7_marks 1 = .ok (.iload_n 2, 1) := by decide +kernel
theorem dX7_marks_2 : decode cX7_marks 2 = .ok (.dup2, 1) := by decide +kernel
theorem dX7_marks_3 : decode cX7_marks 3 = .ok (.iaload, 1) := by decide +kernel
theorem dX7_marks_4 : decode cX7_marks 4 = .ok (.iconst 1, 1) := by decide +kernel
theorem dX7_marks_5 : decode cX7_marks 5 = .ok (.iadd, 1) := by decide +kernel
theorem dX7_marks_6 : decode cX7_marks 6 = .ok (.iastore, 1) := by decide +kernel
theorem dX7_marks_7 : decode cX7_marks 7 = .ok (.aload_n 1, 1) := by decide +kernel
theorem dX7_marks_8 : decode cX7_marks 8 = .ok (.iload_n 3, 1) := by decide +kernel
theorem dX7_marks_9 : decode cX7_marks 9 = .ok (.dup2, 1) := by decide +kernel
theorem dX7_marks_10 : decode cX7_marks 10 = .ok (.iaload, 1) := by decide +kernel
theorem dX7_marks_11 : decode cX7_marks 11 = .ok (.iconst 1, 1) := by decide +kernel
theorem dX7_marks_12 : decode cX7_marks 12 = .ok (.isub, 1) := by decide +kernel
theorem dX7_marks_13 : decode cX7_marks 13 = .ok (.iastore, 1) := by decide +kernel
theorem dX7_marks_14 : decode cX7_marks 14 = .ok (.return_, 1) := by decide +kernel
theorem dX7_lays_0 : decode cX7_lays 0 = .ok (.aload_n 0, 1) := by decide +kernel
theorem dX7_lays_1 : decode cX7_lays 1 = .ok (.iload_n 1, 1) := by decide +kernel
theorem dX7_lays_2 : decode cX7_lays 2 = .ok (.invokevirtual 135, 3) := by decide +kernel
theorem dX7_lays_5 : decode cX7_lays 5 = .ok (.iconst 0, 1) := by decide +kernel
theorem dX7_lays_6 : decode cX7_lays 6 = .ok (.istore_n 2, 1) := by decide +kernel
theorem dX7_lays_7 : decode cX7_lays 7 = .ok (.iload_n 2, 1) := by decide +kernel
theorem dX7_lays_8 : decode cX7_lays 8 = .ok (.sipush 10080, 3) := by decide +kernel
theorem dX7_lays_11 : decode cX7_lays 11 = .ok (.if_icmp .gt 23, 3) := by decide +kernel
theorem dX7_lays_14 : decode cX7_lays 14 = .ok (.aload_n 0, 1) := by decide +kernel
theorem dX7_lays_15 : decode cX7_lays 15 = .ok (.getfield 66, 3) := by decide +kernel
theorem dX7_lays_18 : decode cX7_lays 18 = .ok (.iload_n 2, 1) := by decide +kernel
theorem dX7_lays_19 : decode cX7_lays 19 = .ok (.iconst 0, 1) := by decide +kernel
theorem dX7_lays_20 : decode cX7_lays 20 = .ok (.iastore, 1) := by decide +kernel
theorem dX7_lays_21 : decode cX7_lays 21 = .ok (.aload_n 0, 1) := by decide +kernel
theorem dX7_lays_22 : decode cX7_lays 22 = .ok (.getfield 69, 3) := by decide +kernel
theorem dX7_lays_25 : decode cX7_lays 25 = .ok (.iload_n 2, 1) := by decide +kernel
theorem dX7_lays_26 : decode cX7_lays 26 = .ok (.iconst 0, 1) := by decide +kernel
theorem dX7_lays_27 : decode cX7_lays 27 = .ok (.iastore, 1) := by decide +kernel
theorem dX7_lays_28 : decode cX7_lays 28 = .ok (.iinc 2 1, 3) := by decide +kernel
theorem dX7_lays_31 : decode cX7_lays 31 = .ok (.goto (-24), 3) := by decide +kernel
theorem dX7_lays_34 : decode cX7_lays 34 = .ok (.iconst 0, 1) := by decide +kernel
theorem dX7_lays_35 : decode cX7_lays 35 = .ok (.istore_n 2, 1) := by decide +kernel
theorem dX7_lays_36 : decode cX7_lays 36 = .ok (.iload_n 2, 1) := by decide +kernel
theorem dX7_lays_37 : decode cX7_lays 37 = .ok (.aload_n 0, 1) := by decide +kernel
theorem dX7_lays_38 : decode cX7_lays 38 = .ok (.getfield 125, 3) := by decide +kernel
theorem dX7_lays_41 : decode cX7_lays 41 = .ok (.if_icmp .ge 29, 3) := by decide +kernel
theorem dX7_lays_44 : decode cX7_lays 44 = .ok (.aload_n 0, 1) := by decide +kernel
theorem dX7_lays_45 : decode cX7_lays 45 = .ok (.aload_n 0, 1) := by decide +kernel
theorem dX7_lays_46 : decode cX7_lays 46 = .ok (.getfield 66, 3) := by decide +kernel
theorem dX7_lays_49 : decode cX7_lays 49 = .ok (.aload_n 0, 1) := by decide +kernel
theorem dX7_lays_50 : decode cX7_lays 50 = .ok (.getfield 60, 3) := by decide +kernel
theorem dX7_lays_53 : decode cX7_lays 53 = .ok (.iload_n 2, 1) := by decide +kernel
theorem dX7_lays_54 : decode cX7_lays 54 = .ok (.iaload, 1) := by decide +kernel
theorem dX7_lays_55 : decode cX7_lays 55 = .ok (.aload_n 0, 1) := by decide +kernel
theorem dX7_lays_56 : decode cX7_lays 56 = .ok (.getfield 63, 3) := by decide +kernel
theorem dX7_lays_59 : decode cX7_lays 59 = .ok (.iload_n 2, 1) := by decide +kernel
theorem dX7_lays_60 : decode cX7_lays 60 = .ok (.iaload, 1) := by decide +kernel
theorem dX7_lays_61 : decode cX7_lays 61 = .ok (.invokevirtual 139, 3) := by decide +kernel
theorem dX7_lays_64 : decode cX7_lays 64 = .ok (.iinc 2 1, 3) := by decide +kernel
theorem dX7_lays_67 : decode cX7_lays 67 = .ok (.goto (-31), 3) := by decide +kernel
theorem dX7_lays_70 : decode cX7_lays 70 = .ok (.bipush 20, 2) := by decide +kernel
theorem dX7_lays_72 : decode cX7_lays 72 = .ok (.iload_n 1, 1) := by decide +kernel
theorem dX7_lays_73 : decode cX7_lays 73 = .ok (.imul, 1) := by decide +kernel
theorem dX7_lays_74 : decode cX7_lays 74 = .ok (.istore_n 2, 1) := by decide +kernel
theorem dX7_lays_75 : decode cX7_lays 75 = .ok (.iload_n 2, 1) := by decide +kernel
theorem dX7_lays_76 : decode cX7_lays 76 = .ok (.bipush 20, 2) := by decide +kernel
theorem dX7_lays_78 : decode cX7_lays 78 = .ok (.iload_n 1, 1) := by decide +kernel
theorem dX7_lays_79 : decode cX7_lays 79 = .ok (.imul, 1) := by decide +kernel
theorem dX7_lays_80 : decode cX7_lays 80 = .ok (.aload_n 0, 1) := by decide +kernel
theorem dX7_lays_81 : decode cX7_lays 81 = .ok (.getfield 30, 3) := by decide +kernel
theorem dX7_lays_84 : decode cX7_lays 84 = .ok (.iload_n 1, 1) := by decide +kernel
theorem dX7_lays_85 : decode cX7_lays 85 = .ok (.iaload, 1) := by decide +kernel
theorem dX7_lays_86 : decode cX7_lays 86 = .ok (.iadd, 1) := by decide +kernel
theorem dX7_lays_87 : decode cX7_lays 87 = .ok (.if_icmp .ge 29, 3) := by decide +kernel
theorem dX7_lays_90 : decode cX7_lays 90 = .ok (.aload_n 0, 1) := by decide +kernel
theorem dX7_lays_91 : decode cX7_lays 91 = .ok (.aload_n 0, 1) := by decide +kernel
theorem dX7_lays_92 : decode cX7_lays 92 = .ok (.getfield 66, 3) := by decide +kernel
theorem dX7_lays_95 : decode cX7_lays 95 = .ok (.aload_n 0, 1) := by decide +kernel
theorem dX7_lays_96 : decode cX7_lays 96 = .ok (.getfield 33, 3) := by decide +kernel
theorem dX7_lays_99 : decode cX7_lays 99 = .ok (.iload_n 2, 1) := by decide +kernel
theorem dX7_lays_100 : decode cX7_lays 100 = .ok (.iaload, 1) := by decide +kernel
theorem dX7_lays_101 : decode cX7_lays 101 = .ok (.aload_n 0, 1) := by decide +kernel
theorem dX7_lays_102 : decode cX7_lays 102 = .ok (.getfield 36, 3) := by decide +kernel
theorem dX7_lays_105 : decode cX7_lays 105 = .ok (.iload_n 2, 1) := by decide +kernel
theorem dX7_lays_106 : decode cX7_lays 106 = .ok (.iaload, 1) := by decide +kernel
theorem dX7_lays_107 : decode cX7_lays 107 = .ok (.invokevirtual 139, 3) := by decide +kernel
theorem dX7_lays_110 : decode cX7_lays 110 = .ok (.iinc 2 1, 3) := by decide +kernel
theorem dX7_lays_113 : decode cX7_lays 113 = .ok (.goto (-38), 3) := by decide +kernel
theorem dX7_lays_116 : decode cX7_lays 116 = .ok (.bipush 20, 2) := by decide +kernel
theorem dX7_lays_118 : decode cX7_lays 118 = .ok (.iload_n 1, 1) := by decide +kernel
theorem dX7_lays_119 : decode cX7_lays 119 = .ok (.imul, 1) := by decide +kernel
theorem dX7_lays_120 : decode cX7_lays 120 = .ok (.istore_n 2, 1) := by decide +kernel
theorem dX7_lays_121 : decode cX7_lays 121 = .ok (.iload_n 2, 1) := by decide +kernel
theorem dX7_lays_122 : decode cX7_lays 122 = .ok (.bipush 20, 2) := by decide +kernel
theorem dX7_lays_124 : decode cX7_lays 124 = .ok (.iload_n 1, 1) := by decide +kernel
theorem dX7_lays_125 : decode cX7_lays 125 = .ok (.imul, 1) := by decide +kernel
theorem dX7_lays_126 : decode cX7_lays 126 = .ok (.aload_n 0, 1) := by decide +kernel
theorem dX7_lays_127 : decode cX7_lays 127 = .ok (.getfield 39, 3) := by decide +kernel
theorem dX7_lays_130 : decode cX7_lays 130 = .ok (.iload_n 1, 1) := by decide +kernel
theorem dX7_lays_131 : decode cX7_lays 131 = .ok (.iaload, 1) := by decide +kernel
theorem dX7_lays_132 : decode cX7_lays 132 = .ok (.iadd, 1) := by decide +kernel
theorem dX7_lays_133 : decode cX7_lays 133 = .ok (.if_icmp .ge 29, 3) := by decide +kernel
theorem dX7_lays_136 : decode cX7_lays 136 = .ok (.aload_n 0, 1) := by decide +kernel
theorem dX7_lays_137 : decode cX7_lays 137 = .ok (.aload_n 0, 1) := by decide +kernel
theorem dX7_lays_138 : decode cX7_lays 138 = .ok (.getfield 69, 3) := by decide +kernel
theorem dX7_lays_141 : decode cX7_lays 141 = .ok (.aload_n 0, 1) := by decide +kernel
theorem dX7_lays_142 : decode cX7_lays 142 = .ok (.getfield 42, 3) := by decide +kernel
theorem dX7_lays_145 : decode cX7_lays 145 = .ok (.iload_n 2, 1) := by decide +kernel
theorem dX7_lays_146 : decode cX7_lays 146 = .ok (.iaload, 1) := by decide +kernel
theorem dX7_lays_147 : decode cX7_lays 147 = .ok (.aload_n 0, 1) := by decide +kernel
theorem dX7_lays_148 : decode cX7_lays 148 = .ok (.getfield 45, 3) := by decide +kernel
theorem dX7_lays_151 : decode cX7_lays 151 = .ok (.iload_n 2, 1) := by decide +kernel
theorem dX7_lays_152 : decode cX7_lays 152 = .ok (.iaload, 1) := by decide +kernel
theorem dX7_lays_153 : decode cX7_lays 153 = .ok (.invokevirtual 139, 3) := by decide +kernel
theorem dX7_lays_156 : decode cX7_lays 156 = .ok (.iinc 2 1, 3) := by decide +kernel
theorem dX7_lays_159 : decode cX7_lays 159 = .ok (.goto (-38), 3) := by decide +kernel
theorem dX7_lays_162 : decode cX7_lays 162 = .ok (.aload_n 0, 1) := by decide +kernel
theorem dX7_lays_163 : decode cX7_lays 163 = .ok (.invokevirtual 143, 3) := by decide +kernel
theorem dX7_lays_166 : decode cX7_lays 166 = .ok (.aload_n 0, 1) := by decide +kernel
theorem dX7_lays_167 : decode cX7_lays 167 = .ok (.invokevirtual 146, 3) := by decide +kernel
theorem dX7_lays_170 : decode cX7_lays 170 = .ok (.aload_n 0, 1) := by decide +kernel
theorem dX7_lays_171 : decode cX7_lays 171 = .ok (.invokevirtual 149, 3) := by decide +kernel
theorem dX7_lays_174 : decode cX7_lays 174 = .ok (.return_, 1) := by decide +kernel
theorem dX7_findsPaid_0 : decode cX7_findsPaid 0 = .ok (.aload_n 0, 1) := by decide +kernel
theorem dX7_findsPaid_1 : decode cX7_findsPaid 1 = .ok (.iconst 0, 1) := by decide +kernel
theorem dX7_findsPaid_2 : decode cX7_findsPaid 2 = .ok (.putfield 152, 3) := by decide +kernel
theorem dX7_findsPaid_5 : decode cX7_findsPaid 5 = .ok (.aload_n 0, 1) := by decide +kernel
theorem dX7_findsPaid_6 : decode cX7_findsPaid 6 = .ok (.iconst 0, 1) := by decide +kernel
theorem dX7_findsPaid_7 : decode cX7_findsPaid 7 = .ok (.putfield 155, 3) := by decide +kernel
theorem dX7_findsPaid_10 : decode cX7_findsPaid 10 = .ok (.aload_n 0, 1) := by decide +kernel
theorem dX7_findsPaid_11 : decode cX7_findsPaid 11 = .ok (.iconst 0, 1) := by decide +kernel
theorem dX7_findsPaid_12 : decode cX7_findsPaid 12 = .ok (.putfield 158, 3) := by decide +kernel
theorem dX7_findsPaid_15 : decode cX7_findsPaid 15 = .ok (.iconst 0, 1) := by decide +kernel
theorem dX7_findsPaid_16 : decode cX7_findsPaid 16 = .ok (.istore_n 1, 1) := by decide +kernel
theorem dX7_findsPaid_17 : decode cX7_findsPaid 17 = .ok (.iload_n 1, 1) := by decide +kernel
theorem dX7_findsPaid_18 : decode cX7_findsPaid 18 = .ok (.bipush 7, 2) := by decide +kernel
theorem dX7_findsPaid_20 : decode cX7_findsPaid 20 = .ok (.if_icmp .ge 23, 3) := by decide +kernel
theorem dX7_findsPaid_23 : decode cX7_findsPaid 23 = .ok (.aload_n 0, 1) := by decide +kernel
theorem dX7_findsPaid_24 : decode cX7_findsPaid 24 = .ok (.getfield 75, 3) := by decide +kernel
theorem dX7_findsPaid_27 : decode cX7_findsPaid 27 = .ok (.iload_n 1, 1) := by decide +kernel
theorem dX7_findsPaid_28 : decode cX7_findsPaid 28 = .ok (.iconst 0, 1) := by decide +kernel
theorem dX7_findsPaid_29 : decode cX7_findsPaid 29 = .ok (.iastore, 1) := by decide +kernel
theorem dX7_findsPaid_30 : decode cX7_findsPaid 30 = .ok (.aload_n 0, 1) := by decide +kernel
theorem dX7_findsPaid_31 : decode cX7_findsPaid 31 = .ok (.getfield 78, 3) := by decide +kernel
theorem dX7_findsPaid_34 : decode cX7_findsPaid 34 = .ok (.iload_n 1, 1) := by decide +kernel
theorem dX7_findsPaid_35 : decode cX7_findsPaid 35 = .ok (.iconst 0, 1) := by decide +kernel
theorem dX7_findsPaid_36 : decode cX7_findsPaid 36 = .ok (.iastore, 1) := by decide +kernel
theorem dX7_findsPaid_37 : decode cX7_findsPaid 37 = .ok (.iinc 1 1, 3) := by decide +kernel
theorem dX7_findsPaid_40 : decode cX7_findsPaid 40 = .ok (.goto (-23), 3) := by decide +kernel
theorem dX7_findsPaid_43 : decode cX7_findsPaid 43 = .ok (.iconst 0, 1) := by decide +kernel
theorem dX7_findsPaid_44 : decode cX7_findsPaid 44 = .ok (.istore_n 1, 1) := by decide +kernel
theorem dX7_findsPaid_45 : decode cX7_findsPaid 45 = .ok (.iconst 0, 1) := by decide +kernel
theorem dX7_findsPaid_46 : decode cX7_findsPaid 46 = .ok (.istore_n 2, 1) := by decide +kernel
theorem dX7_findsPaid_47 : decode cX7_findsPaid 47 = .ok (.iload_n 2, 1) := by decide +kernel
theorem dX7_findsPaid_48 : decode cX7_findsPaid 48 = .ok (.sipush 10080, 3) := by decide +kernel
theorem dX7_findsPaid_51 : decode cX7_findsPaid 51 = .ok (.if_icmp .ge 243, 3) := by decide +kernel
theorem dX7_findsPaid_54 : decode cX7_findsPaid 54 = .ok (.aload_n 0, 1) := by decide +kernel
theorem dX7_findsPaid_55 : decode cX7_findsPaid 55 = .ok (.getfield 66, 3) := by decide +kernel
theorem dX7_findsPaid_58 : decode cX7_findsPaid 58 = .ok (.iload_n 2, 1) := by decide +kernel
theorem dX7_findsPaid_59 : decode cX7_findsPaid 59 = .ok (.dup2, 1) := by decide +kernel
theorem dX7_findsPaid_60 : decode cX7_findsPaid 60 = .ok (.iaload, 1) := by decide +kernel
theorem dX7_findsPaid_61 : decode cX7_findsPaid 61 = .ok (.iload_n 2, 1) := by decide +kernel
theorem dX7_findsPaid_62 : decode cX7_findsPaid 62 = .ok (.ifCond .le 14, 3) := by decide +kernel
theorem dX7_findsPaid_65 : decode cX7_findsPaid 65 = .ok (.aload_n 0, 1) := by decide +kernel
theorem dX7_findsPaid_66 : decode cX7_findsPaid 66 = .ok (.getfield 66, 3) := by decide +kernel
theorem dX7_findsPaid_69 : decode cX7_findsPaid 69 = .ok (.iload_n 2, 1) := by decide +kernel
theorem dX7_findsPaid_70 : decode cX7_findsPaid 70 = .ok (.iconst 1, 1) := by decide +kernel
theorem dX7_findsPaid_71 : decode cX7_findsPaid 71 = .ok (.isub, 1) := by decide +kernel
theorem dX7_findsPaid_72 : decode cX7_findsPaid 72 = .ok (.iaload, 1) := by decide +kernel
theorem dX7_findsPaid_73 : decode cX7_findsPaid 73 = .ok (.goto 4, 3) := by decide +kernel
theorem dX7_findsPaid_76 : decode cX7_findsPaid 76 = .ok (.iconst 0, 1) := by decide +kernel
theorem dX7_findsPaid_77 : decode cX7_findsPaid 77 = .ok (.iadd, 1) := by decide +kernel
theorem dX7_findsPaid_78 : decode cX7_findsPaid 78 = .ok (.iastore, 1) := by decide +kernel
theorem dX7_findsPaid_79 : decode cX7_findsPaid 79 = .ok (.aload_n 0, 1) := by decide +kernel
theorem dX7_findsPaid_80 : decode cX7_findsPaid 80 = .ok (.getfield 69, 3) := by decide +kernel
theorem dX7_findsPaid_83 : decode cX7_findsPaid 83 = .ok (.iload_n 2, 1) := by decide +kernel
theorem dX7_findsPaid_84 : decode cX7_findsPaid 84 = .ok (.dup2, 1) := by decide +kernel
theorem dX7_findsPaid_85 : decode cX7_findsPaid 85 = .ok (.iaload, 1) := by decide +kernel
theorem dX7_findsPaid_86 : decode cX7_findsPaid 86 = .ok (.iload_n 2, 1) := by decide +kernel
theorem dX7_findsPaid_87 : decode cX7_findsPaid 87 = .ok (.ifCond .le 14, 3) := by decide +kernel
theorem dX7_findsPaid_90 : decode cX7_findsPaid 90 = .ok (.aload_n 0, 1) := by decide +kernel
theorem dX7_findsPaid_91 : decode cX7_findsPaid 91 = .ok (.getfield 69, 3) := by decide +kernel
theorem dX7_findsPaid_94 : decode cX7_findsPaid 94 = .ok (.iload_n 2, 1) := by decide +kernel
theorem dX7_findsPaid_95 : decode cX7_findsPaid 95 = .ok (.iconst 1, 1) := by decide +kernel
theorem dX7_findsPaid_96 : decode cX7_findsPaid 96 = .ok (.isub, 1) := by decide +kernel
theorem dX7_findsPaid_97 : decode cX7_findsPaid 97 = .ok (.iaload, 1) := by decide +kernel
theorem dX7_findsPaid_98 : decode cX7_findsPaid 98 = .ok (.goto 4, 3) := by decide +kernel
theorem dX7_findsPaid_101 : decode cX7_findsPaid 101 = .ok (.iconst 0, 1) := by decide +kernel
theorem dX7_findsPaid_102 : decode cX7_findsPaid 102 = .ok (.iadd, 1) := by decide +kernel
theorem dX7_findsPaid_103 : decode cX7_findsPaid 103 = .ok (.iastore, 1) := by decide +kernel
theorem dX7_findsPaid_104 : decode cX7_findsPaid 104 = .ok (.aload_n 0, 1) := by decide +kernel
theorem dX7_findsPaid_105 : decode cX7_findsPaid 105 = .ok (.getfield 66, 3) := by decide +kernel
theorem dX7_findsPaid_108 : decode cX7_findsPaid 108 = .ok (.iload_n 2, 1) := by decide +kernel
theorem dX7_findsPaid_109 : decode cX7_findsPaid 109 = .ok (.iaload, 1) := by decide +kernel
theorem dX7_findsPaid_110 : decode cX7_findsPaid 110 = .ok (.ifCond .le 16, 3) := by decide +kernel
theorem dX7_findsPaid_113 : decode cX7_findsPaid 113 = .ok (.aload_n 0, 1) := by decide +kernel
theorem dX7_findsPaid_114 : decode cX7_findsPaid 114 = .ok (.getfield 69, 3) := by decide +kernel
theorem dX7_findsPaid_117 : decode cX7_findsPaid 117 = .ok (.iload_n 2, 1) := by decide +kernel
theorem dX7_findsPaid_118 : decode cX7_findsPaid 118 = .ok (.iaload, 1) := by decide +kernel
theorem dX7_findsPaid_119 : decode cX7_findsPaid 119 = .ok (.ifCond .ne 7, 3) := by decide +kernel
theorem dX7_findsPaid_122 : decode cX7_findsPaid 122 = .ok (.iconst 1, 1) := by decide +kernel
theorem dX7_findsPaid_123 : decode cX7_findsPaid 123 = .ok (.goto 4, 3) := by decide +kernel
theorem dX7_findsPaid_126 : decode cX7_findsPaid 126 = .ok (.iconst 0, 1) := by decide +kernel
theorem dX7_findsPaid_127 : decode cX7_findsPaid 127 = .ok (.istore_n 3, 1) := by decide +kernel
theorem dX7_findsPaid_128 : decode cX7_findsPaid 128 = .ok (.iload_n 3, 1) := by decide +kernel
theorem dX7_findsPaid_129 : decode cX7_findsPaid 129 = .ok (.ifCond .eq 9, 3) := by decide +kernel
theorem dX7_findsPaid_132 : decode cX7_findsPaid 132 = .ok (.iload_n 1, 1) := by decide +kernel
theorem dX7_findsPaid_133 : decode cX7_findsPaid 133 = .ok (.iconst 1, 1) := by decide +kernel
theorem dX7_findsPaid_134 : decode cX7_findsPaid 134 = .ok (.iadd, 1) := by decide +kernel
theorem dX7_findsPaid_135 : decode cX7_findsPaid 135 = .ok (.goto 4, 3) := by decide +kernel
theorem dX7_findsPaid_138 : decode cX7_findsPaid 138 = .ok (.iconst 0, 1) := by decide +kernel
theorem dX7_findsPaid_139 : decode cX7_findsPaid 139 = .ok (.istore_n 1, 1) := by decide +kernel
theorem dX7_findsPaid_140 : decode cX7_findsPaid 140 = .ok (.aload_n 0, 1) := by decide +kernel
theorem dX7_findsPaid_141 : decode cX7_findsPaid 141 = .ok (.dup, 1) := by decide +kernel
theorem dX7_findsPaid_142 : decode cX7_findsPaid 142 = .ok (.getfield 152, 3) := by decide +kernel
theorem dX7_findsPaid_145 : decode cX7_findsPaid 145 = .ok (.aload_n 0, 1) := by decide +kernel
theorem dX7_findsPaid_146 : decode cX7_findsPaid 146 = .ok (.getfield 66, 3) := by decide +kernel
theorem dX7_findsPaid_149 : decode cX7_findsPaid 149 = .ok (.iload_n 2, 1) := by decide +kernel
theorem dX7_findsPaid_150 : decode cX7_findsPaid 150 = .ok (.iaload, 1) := by decide +kernel
theorem dX7_findsPaid_151 : decode cX7_findsPaid 151 = .ok (.iconst 1, 1) := by decide +kernel
theorem dX7_findsPaid_152 : decode cX7_findsPaid 152 = .ok (.if_icmp .le 7, 3) := by decide +kernel
theorem dX7_findsPaid_155 : decode cX7_findsPaid 155 = .ok (.iconst 1, 1) := by decide +kernel
theorem dX7_findsPaid_156 : decode cX7_findsPaid 156 = .ok (.goto 4, 3) := by decide +kernel
theorem dX7_findsPaid_159 : decode cX7_findsPaid 159 = .ok (.iconst 0, 1) := by decide +kernel
theorem dX7_findsPaid_160 : decode cX7_findsPaid 160 = .ok (.iadd, 1) := by decide +kernel
theorem dX7_findsPaid_161 : decode cX7_findsPaid 161 = .ok (.putfield 152, 3) := by decide +kernel
theorem dX7_findsPaid_164 : decode cX7_findsPaid 164 = .ok (.aload_n 0, 1) := by decide +kernel
theorem dX7_findsPaid_165 : decode cX7_findsPaid 165 = .ok (.dup, 1) := by decide +kernel
theorem dX7_findsPaid_166 : decode cX7_findsPaid 166 = .ok (.getfield 155, 3) := by decide +kernel
theorem dX7_findsPaid_169 : decode cX7_findsPaid 169 = .ok (.iload_n 1, 1) := by decide +kernel
theorem dX7_findsPaid_170 : decode cX7_findsPaid 170 = .ok (.iconst 1, 1) := by decide +kernel
theorem dX7_findsPaid_171 : decode cX7_findsPaid 171 = .ok (.if_icmp .ne 7, 3) := by decide +kernel
theorem dX7_findsPaid_174 : decode cX7_findsPaid 174 = .ok (.iconst 1, 1) := by decide +kernel
theorem dX7_findsPaid_175 : decode cX7_findsPaid 175 = .ok (.goto 4, 3) := by decide +kernel
theorem dX7_findsPaid_178 : decode cX7_findsPaid 178 = .ok (.iconst 0, 1) := by decide +kernel
theorem dX7_findsPaid_179 : decode cX7_findsPaid 179 = .ok (.iadd, 1) := by decide +kernel
theorem dX7_findsPaid_180 : decode cX7_findsPaid 180 = .ok (.putfield 155, 3) := by decide +kernel
theorem dX7_findsPaid_183 : decode cX7_findsPaid 183 = .ok (.aload_n 0, 1) := by decide +kernel
theorem dX7_findsPaid_184 : decode cX7_findsPaid 184 = .ok (.iload_n 1, 1) := by decide +kernel
theorem dX7_findsPaid_185 : decode cX7_findsPaid 185 = .ok (.aload_n 0, 1) := by decide +kernel
theorem dX7_findsPaid_186 : decode cX7_findsPaid 186 = .ok (.getfield 158, 3) := by decide +kernel
theorem dX7_findsPaid_189 : decode cX7_findsPaid 189 = .ok (.if_icmp .le 7, 3) := by decide +kernel
theorem dX7_findsPaid_192 : decode cX7_findsPaid 192 = .ok (.iload_n 1, 1) := by decide +kernel
theorem dX7_findsPaid_193 : decode cX7_findsPaid 193 = .ok (.goto 7, 3) := by decide +kernel
theorem dX7_findsPaid_196 : decode cX7_findsPaid 196 = .ok (.aload_n 0, 1) := by decide +kernel
theorem dX7_findsPaid_197 : decode cX7_findsPaid 197 = .ok (.getfield 158, 3) := by decide +kernel
theorem dX7_findsPaid_200 : decode cX7_findsPaid 200 = .ok (.putfield 158, 3) := by decide +kernel
theorem dX7_findsPaid_203 : decode cX7_findsPaid 203 = .ok (.aload_n 0, 1) := by decide +kernel
theorem dX7_findsPaid_204 : decode cX7_findsPaid 204 = .ok (.getfield 75, 3) := by decide +kernel
theorem dX7_findsPaid_207 : decode cX7_findsPaid 207 = .ok (.iload_n 2, 1) := by decide +kernel
theorem dX7_findsPaid_208 : decode cX7_findsPaid 208 = .ok (.sipush 1440, 3) := by decide +kernel
theorem dX7_findsPaid_211 : decode cX7_findsPaid 211 = .ok (.idiv, 1) := by decide +kernel
theorem dX7_findsPaid_212 : decode cX7_findsPaid 212 = .ok (.dup2, 1) := by decide +kernel
theorem dX7_findsPaid_213 : decode cX7_findsPaid 213 = .ok (.iaload, 1) := by decide +kernel
theorem dX7_findsPaid_214 : decode cX7_findsPaid 214 = .ok (.iload_n 3, 1) := by decide +kernel
theorem dX7_findsPaid_215 : decode cX7_findsPaid 215 = .ok (.ifCond .eq 7, 3) := by decide +kernel
theorem dX7_findsPaid_218 : decode cX7_findsPaid 218 = .ok (.iconst 1, 1) := by decide +kernel
theorem dX7_findsPaid_219 : decode cX7_findsPaid 219 = .ok (.goto 4, 3) := by decide +kernel
theorem dX7_findsPaid_222 : decode cX7_findsPaid 222 = .ok (.iconst 0, 1) := by decide +kernel
theorem dX7_findsPaid_223 : decode cX7_findsPaid 223 = .ok (.iadd, 1) := by decide +kernel
theorem dX7_findsPaid_224 : decode cX7_findsPaid 224 = .ok (.iastore, 1) := by decide +kernel
theorem dX7_findsPaid_225 : decode cX7_findsPaid 225 = .ok (.iload_n 3, 1) := by decide +kernel
theorem dX7_findsPaid_226 : decode cX7_findsPaid 226 = .ok (.ifCond .eq 20, 3) := by decide +kernel
theorem dX7_findsPaid_229 : decode cX7_findsPaid 229 = .ok (.iload_n 1, 1) := by decide +kernel
theorem dX7_findsPaid_230 : decode cX7_findsPaid 230 = .ok (.sipush 361, 3) := by decide +kernel
theorem dX7_findsPaid_233 : decode cX7_findsPaid 233 = .ok (.sipush 390, 3) := by decide +kernel
theorem dX7_findsPaid_236 : decode cX7_findsPaid 236 = .ok (.invokestatic 97, 3) := by decide +kernel
theorem dX7_findsPaid_239 : decode cX7_findsPaid 239 = .ok (.ifCond .ne 7, 3) := by decide +kernel
theorem dX7_findsPaid_242 : decode cX7_findsPaid 242 = .ok (.iconst 1, 1) := by decide +kernel
theorem dX7_findsPaid_243 : decode cX7_findsPaid 243 = .ok (.goto 4, 3) := by decide +kernel
theorem dX7_findsPaid_246 : decode cX7_findsPaid 246 = .ok (.iconst 0, 1) := by decide +kernel
theorem dX7_findsPaid_247 : decode cX7_findsPaid 247 = .ok (.istore 4, 2) := by decide +kernel
theorem dX7_findsPaid_249 : decode cX7_findsPaid 249 = .ok (.aload_n 0, 1) := by decide +kernel
theorem dX7_findsPaid_250 : decode cX7_findsPaid 250 = .ok (.getfield 72, 3) := by decide +kernel
theorem dX7_findsPaid_253 : decode cX7_findsPaid 253 = .ok (.iload_n 2, 1) := by decide +kernel
theorem dX7_findsPaid_254 : decode cX7_findsPaid 254 = .ok (.iload 4, 2) := by decide +kernel
theorem dX7_findsPaid_256 : decode cX7_findsPaid 256 = .ok (.ifCond .eq 7, 3) := by decide +kernel
theorem dX7_findsPaid_259 : decode cX7_findsPaid 259 = .ok (.iconst 0, 1) := by decide +kernel
theorem dX7_findsPaid_260 : decode cX7_findsPaid 260 = .ok (.goto 4, 3) := by decide +kernel
theorem dX7_findsPaid_263 : decode cX7_findsPaid 263 = .ok (.iconst (-1), 1) := by decide +kernel
theorem dX7_findsPaid_264 : decode cX7_findsPaid 264 = .ok (.iastore, 1) := by decide +kernel
theorem dX7_findsPaid_265 : decode cX7_findsPaid 265 = .ok (.aload_n 0, 1) := by decide +kernel
theorem dX7_findsPaid_266 : decode cX7_findsPaid 266 = .ok (.getfield 78, 3) := by decide +kernel
theorem dX7_findsPaid_269 : decode cX7_findsPaid 269 = .ok (.iload_n 2, 1) := by decide +kernel
theorem dX7_findsPaid_270 : decode cX7_findsPaid 270 = .ok (.sipush 1440, 3) := by decide +kernel
theorem dX7_findsPaid_273 : decode cX7_findsPaid 273 = .ok (.idiv, 1) := by decide +kernel
theorem dX7_findsPaid_274 : decode cX7_findsPaid 274 = .ok (.dup2, 1) := by decide +kernel
theorem dX7_findsPaid_275 : decode cX7_findsPaid 275 = .ok (.iaload, 1) := by decide +kernel
theorem dX7_findsPaid_276 : decode cX7_findsPaid 276 = .ok (.iload 4, 2) := by decide +kernel
theorem dX7_findsPaid_278 : decode cX7_findsPaid 278 = .ok (.ifCond .eq 7, 3) := by decide +kernel
theorem dX7_findsPaid_281 : decode cX7_findsPaid 281 = .ok (.iconst 1, 1) := by decide +kernel
theorem dX7_findsPaid_282 : decode cX7_findsPaid 282 = .ok (.goto 4, 3) := by decide +kernel
theorem dX7_findsPaid_285 : decode cX7_findsPaid 285 = .ok (.iconst 0, 1) := by decide +kernel
theorem dX7_findsPaid_286 : decode cX7_findsPaid 286 = .ok (.iadd, 1) := by decide +kernel
theorem dX7_findsPaid_287 : decode cX7_findsPaid 287 = .ok (.iastore, 1) := by decide +kernel
theorem dX7_findsPaid_288 : decode cX7_findsPaid 288 = .ok (.iinc 2 1, 3) := by decide +kernel
theorem dX7_findsPaid_291 : decode cX7_findsPaid 291 = .ok (.goto (-244), 3) := by decide +kernel
theorem dX7_findsPaid_294 : decode cX7_findsPaid 294 = .ok (.return_, 1) := by decide +kernel
theorem dX7_findsKinds_0 : decode cX7_findsKinds 0 = .ok (.iconst 1, 1) := by decide +kernel
theorem dX7_findsKinds_1 : decode cX7_findsKinds 1 = .ok (.istore_n 1, 1) := by decide +kernel
theorem dX7_findsKinds_2 : decode cX7_findsKinds 2 = .ok (.iconst 0, 1) := by decide +kernel
theorem dX7_findsKinds_3 : decode cX7_findsKinds 3 = .ok (.istore_n 2, 1) := by decide +kernel
theorem dX7_findsKinds_4 : decode cX7_findsKinds 4 = .ok (.iload_n 2, 1) := by decide +kernel
theorem dX7_findsKinds_5 : decode cX7_findsKinds 5 = .ok (.bipush 6, 2) := by decide +kernel
theorem dX7_findsKinds_7 : decode cX7_findsKinds 7 = .ok (.if_icmp .ge 28, 3) := by decide +kernel
theorem dX7_findsKinds_10 : decode cX7_findsKinds 10 = .ok (.iload_n 1, 1) := by decide +kernel
theorem dX7_findsKinds_11 : decode cX7_findsKinds 11 = .ok (.ifCond .eq 16, 3) := by decide +kernel
theorem dX7_findsKinds_14 : decode cX7_findsKinds 14 = .ok (.aload_n 0, 1) := by decide +kernel
theorem dX7_findsKinds_15 : decode cX7_findsKinds 15 = .ok (.getfield 78, 3) := by decide +kernel
theorem dX7_findsKinds_18 : decode cX7_findsKinds 18 = .ok (.iload_n 2, 1) := by decide +kernel
theorem dX7_findsKinds_19 : decode cX7_findsKinds 19 = .ok (.iaload, 1) := by decide +kernel
theorem dX7_findsKinds_20 : decode cX7_findsKinds 20 = .ok (.ifCond .le 7, 3) := by decide +kernel
theorem dX7_findsKinds_23 : decode cX7_findsKinds 23 = .ok (.iconst 1, 1) := by decide +kernel
theorem dX7_findsKinds_24 : decode cX7_findsKinds 24 = .ok (.goto 4, 3) := by decide +kernel
theorem dX7_findsKinds_27 : decode cX7_findsKinds 27 = .ok (.iconst 0, 1) := by decide +kernel
theorem dX7_findsKinds_28 : decode cX7_findsKinds 28 = .ok (.istore_n 1, 1) := by decide +kernel
theorem dX7_findsKinds_29 : decode cX7_findsKinds 29 = .ok (.iinc 2 1, 3) := by decide +kernel
theorem dX7_findsKinds_32 : decode cX7_findsKinds 32 = .ok (.goto (-28), 3) := by decide +kernel
theorem dX7_findsKinds_35 : decode cX7_findsKinds 35 = .ok (.iconst 0, 1) := by decide +kernel
theorem dX7_findsKinds_36 : decode cX7_findsKinds 36 = .ok (.istore_n 2, 1) := by decide +kernel
theorem dX7_findsKinds_37 : decode cX7_findsKinds 37 = .ok (.iload_n 2, 1) := by decide +kernel
theorem dX7_findsKinds_38 : decode cX7_findsKinds 38 = .ok (.bipush 21, 2) := by decide +kernel
theorem dX7_findsKinds_40 : decode cX7_findsKinds 40 = .ok (.if_icmp .ge 16, 3) := by decide +kernel
theorem dX7_findsKinds_43 : decode cX7_findsKinds 43 = .ok (.aload_n 0, 1) := by decide +kernel
theorem dX7_findsKinds_44 : decode cX7_findsKinds 44 = .ok (.getfield 81, 3) := by decide +kernel
theorem dX7_findsKinds_47 : decode cX7_findsKinds 47 = .ok (.iload_n 2, 1) := by decide +kernel
theorem dX7_findsKinds_48 : decode cX7_findsKinds 48 = .ok (.iconst 0, 1) := by decide +kernel
theorem dX7_findsKinds_49 : decode cX7_findsKinds 49 = .ok (.iastore, 1) := by decide +kernel
theorem dX7_findsKinds_50 : decode cX7_findsKinds 50 = .ok (.iinc 2 1, 3) := by decide +kernel
theorem dX7_findsKinds_53 : decode cX7_findsKinds 53 = .ok (.goto (-16), 3) := by decide +kernel
theorem dX7_findsKinds_56 : decode cX7_findsKinds 56 = .ok (.iconst 0, 1) := by decide +kernel
theorem dX7_findsKinds_57 : decode cX7_findsKinds 57 = .ok (.istore_n 2, 1) := by decide +kernel
theorem dX7_findsKinds_58 : decode cX7_findsKinds 58 = .ok (.iconst 0, 1) := by decide +kernel
theorem dX7_findsKinds_59 : decode cX7_findsKinds 59 = .ok (.istore_n 3, 1) := by decide +kernel
theorem dX7_findsKinds_60 : decode cX7_findsKinds 60 = .ok (.iconst 0, 1) := by decide +kernel
theorem dX7_findsKinds_61 : decode cX7_findsKinds 61 = .ok (.istore 4, 2) := by decide +kernel
theorem dX7_findsKinds_63 : decode cX7_findsKinds 63 = .ok (.iload 4, 2) := by decide +kernel
theorem dX7_findsKinds_65 : decode cX7_findsKinds 65 = .ok (.sipush 10080, 3) := by decide +kernel
theorem dX7_findsKinds_68 : decode cX7_findsKinds 68 = .ok (.if_icmp .ge 154, 3) := by decide +kernel
theorem dX7_findsKinds_71 : decode cX7_findsKinds 71 = .ok (.iload 4, 2) := by decide +kernel
theorem dX7_findsKinds_73 : decode cX7_findsKinds 73 = .ok (.sipush 1440, 3) := by decide +kernel
theorem dX7_findsKinds_76 : decode cX7_findsKinds 76 = .ok (.irem, 1) := by decide +kernel
theorem dX7_findsKinds_77 : decode cX7_findsKinds 77 = .ok (.ifCond .ne 7, 3) := by decide +kernel
theorem dX7_findsKinds_80 : decode cX7_findsKinds 80 = .ok (.iconst 0, 1) := by decide +kernel
theorem dX7_findsKinds_81 : decode cX7_findsKinds 81 = .ok (.goto 4, 3) := by decide +kernel
theorem dX7_findsKinds_84 : decode cX7_findsKinds 84 = .ok (.iload_n 3, 1) := by decide +kernel
theorem dX7_findsKinds_85 : decode cX7_findsKinds 85 = .ok (.istore_n 3, 1) := by decide +kernel
theorem dX7_findsKinds_86 : decode cX7_findsKinds 86 = .ok (.iload 4, 2) := by decide +kernel
theorem dX7_findsKinds_88 : decode cX7_findsKinds 88 = .ok (.sipush 1440, 3) := by decide +kernel
theorem dX7_findsKinds_91 : decode cX7_findsKinds 91 = .ok (.idiv, 1) := by decide +kernel
theorem dX7_findsKinds_92 : decode cX7_findsKinds 92 = .ok (.bipush 6, 2) := by decide +kernel
theorem dX7_findsKinds_94 : decode cX7_findsKinds 94 = .ok (.if_icmp .ne 11, 3) := by decide +kernel
theorem dX7_findsKinds_97 : decode cX7_findsKinds 97 = .ok (.iload_n 1, 1) := by decide +kernel
theorem dX7_findsKinds_98 : decode cX7_findsKinds 98 = .ok (.ifCond .eq 7, 3) := by decide +kernel
theorem dX7_findsKinds_101 : decode cX7_findsKinds 101 = .ok (.iconst 1, 1) := by decide +kernel
theorem dX7_findsKinds_102 : decode cX7_findsKinds 102 = .ok (.goto 4, 3) := by decide +kernel
theorem dX7_findsKinds_105 : decode cX7_findsKinds 105 = .ok (.iconst 0, 1) := by decide +kernel
theorem dX7_findsKinds_106 : decode cX7_findsKinds 106 = .ok (.istore 5, 2) := by decide +kernel
theorem dX7_findsKinds_108 : decode cX7_findsKinds 108 = .ok (.aload_n 0, 1) := by decide +kernel
theorem dX7_findsKinds_109 : decode cX7_findsKinds 109 = .ok (.getfield 72, 3) := by decide +kernel
theorem dX7_findsKinds_112 : decode cX7_findsKinds 112 = .ok (.iload 4, 2) := by decide +kernel
theorem dX7_findsKinds_114 : decode cX7_findsKinds 114 = .ok (.iaload, 1) := by decide +kernel
theorem dX7_findsKinds_115 : decode cX7_findsKinds 115 = .ok (.iconst (-1), 1) := by decide +kernel
theorem dX7_findsKinds_116 : decode cX7_findsKinds 116 = .ok (.if_icmp .eq 100, 3) := by decide +kernel
theorem dX7_findsKinds_119 : decode cX7_findsKinds 119 = .ok (.iload_n 3, 1) := by decide +kernel
theorem dX7_findsKinds_120 : decode cX7_findsKinds 120 = .ok (.sipush 720, 3) := by decide +kernel
theorem dX7_findsKinds_123 : decode cX7_findsKinds 123 = .ok (.if_icmp .ge 15, 3) := by decide +kernel
theorem dX7_findsKinds_126 : decode cX7_findsKinds 126 = .ok (.iload 5, 2) := by decide +kernel
theorem dX7_findsKinds_128 : decode cX7_findsKinds 128 = .ok (.ifCond .eq 14, 3) := by decide +kernel
theorem dX7_findsKinds_131 : decode cX7_findsKinds 131 = .ok (.iload_n 3, 1) := by decide +kernel
theorem dX7_findsKinds_132 : decode cX7_findsKinds 132 = .ok (.sipush 480, 3) := by decide +kernel
theorem dX7_findsKinds_135 : decode cX7_findsKinds 135 = .ok (.if_icmp .lt 7, 3) := by decide +kernel
theorem dX7_findsKinds_138 : decode cX7_findsKinds 138 = .ok (.iconst 1, 1) := by decide +kernel
theorem dX7_findsKinds_139 : decode cX7_findsKinds 139 = .ok (.goto 4, 3) := by decide +kernel
theorem dX7_findsKinds_142 : decode cX7_findsKinds 142 = .ok (.iconst 0, 1) := by decide +kernel
theorem dX7_findsKinds_143 : decode cX7_findsKinds 143 = .ok (.istore 6, 2) := by decide +kernel
theorem dX7_findsKinds_145 : decode cX7_findsKinds 145 = .ok (.aload_n 0, 1) := by decide +kernel
theorem dX7_findsKinds_146 : decode cX7_findsKinds 146 = .ok (.getfield 72, 3) := by decide +kernel
theorem dX7_findsKinds_149 : decode cX7_findsKinds 149 = .ok (.iload 4, 2) := by decide +kernel
theorem dX7_findsKinds_151 : decode cX7_findsKinds 151 = .ok (.iload 6, 2) := by decide +kernel
theorem dX7_findsKinds_153 : decode cX7_findsKinds 153 = .ok (.ifCond .eq 7, 3) := by decide +kernel
theorem dX7_findsKinds_156 : decode cX7_findsKinds 156 = .ok (.iconst 2, 1) := by decide +kernel
theorem dX7_findsKinds_157 : decode cX7_findsKinds 157 = .ok (.goto 27, 3) := by decide +kernel
theorem dX7_findsKinds_160 : decode cX7_findsKinds 160 = .ok (.iload_n 3, 1) := by decide +kernel
theorem dX7_findsKinds_161 : decode cX7_findsKinds 161 = .ok (.sipush 480, 3) := by decide +kernel
theorem dX7_findsKinds_164 : decode cX7_findsKinds 164 = .ok (.if_icmp .ge 15, 3) := by decide +kernel
theorem dX7_findsKinds_167 : decode cX7_findsKinds 167 = .ok (.iload_n 2, 1) := by decide +kernel
theorem dX7_findsKinds_168 : decode cX7_findsKinds 168 = .ok (.sipush 2400, 3) := by decide +kernel
theorem dX7_findsKinds_171 : decode cX7_findsKinds 171 = .ok (.if_icmp .ge 8, 3) := by decide +kernel
theorem dX7_findsKinds_174 : decode cX7_findsKinds 174 = .ok (.iload 5, 2) := by decide +kernel
theorem dX7_findsKinds_176 : decode cX7_findsKinds 176 = .ok (.ifCond .eq 7, 3) := by decide +kernel
theorem dX7_findsKinds_179 : decode cX7_findsKinds 179 = .ok (.iconst 1, 1) := by decide +kernel
theorem dX7_findsKinds_180 : decode cX7_findsKinds 180 = .ok (.goto 4, 3) := by decide +kernel
theorem dX7_findsKinds_183 : decode cX7_findsKinds 183 = .ok (.iconst 0, 1) := by decide +kernel
theorem dX7_findsKinds_184 : decode cX7_findsKinds 184 = .ok (.iastore, 1) := by decide +kernel
theorem dX7_findsKinds_185 : decode cX7_findsKinds 185 = .ok (.aload_n 0, 1) := by decide +kernel
theorem dX7_findsKinds_186 : decode cX7_findsKinds 186 = .ok (.getfield 81, 3) := by decide +kernel
theorem dX7_findsKinds_189 : decode cX7_findsKinds 189 = .ok (.iconst 3, 1) := by decide +kernel
theorem dX7_findsKinds_190 : decode cX7_findsKinds 190 = .ok (.iload 4, 2) := by decide +kernel
theorem dX7_findsKinds_192 : decode cX7_findsKinds 192 = .ok (.sipush 1440, 3) := by decide +kernel
theorem dX7_findsKinds_195 : decode cX7_findsKinds 195 = .ok (.idiv, 1) := by decide +kernel
theorem dX7_findsKinds_196 : decode cX7_findsKinds 196 = .ok (.imul, 1) := by decide +kernel
theorem dX7_findsKinds_197 : decode cX7_findsKinds 197 = .ok (.aload_n 0, 1) := by decide +kernel
theorem dX7_findsKinds_198 : decode cX7_findsKinds 198 = .ok (.getfield 72, 3) := by decide +kernel
theorem dX7_findsKinds_201 : decode cX7_findsKinds 201 = .ok (.iload 4, 2) := by decide +kernel
theorem dX7_findsKinds_203 : decode cX7_findsKinds 203 = .ok (.iaload, 1) := by decide +kernel
theorem dX7_findsKinds_204 : decode cX7_findsKinds 204 = .ok (.iadd, 1) := by decide +kernel
theorem dX7_findsKinds_205 : decode cX7_findsKinds 205 = .ok (.dup2, 1) := by decide +kernel
theorem dX7_findsKinds_206 : decode cX7_findsKinds 206 = .ok (.iaload, 1) := by decide +kernel
theorem dX7_findsKinds_207 : decode cX7_findsKinds 207 = .ok (.iconst 1, 1) := by decide +kernel
theorem dX7_findsKinds_208 : decode cX7_findsKinds 208 = .ok (.iadd, 1) := by decide +kernel
theorem dX7_findsKinds_209 : decode cX7_findsKinds 209 = .ok (.iastore, 1) := by decide +kernel
theorem dX7_findsKinds_210 : decode cX7_findsKinds 210 = .ok (.iinc 3 1, 3) := by decide +kernel
theorem dX7_findsKinds_213 : decode cX7_findsKinds 213 = .ok (.iinc 2 1, 3) := by decide +kernel
theorem dX7_findsKinds_216 : decode cX7_findsKinds 216 = .ok (.iinc 4 1, 3) := by decide +kernel
theorem dX7_findsKinds_219 : decode cX7_findsKinds 219 = .ok (.goto (-156), 3) := by decide +kernel
theorem dX7_findsKinds_222 : decode cX7_findsKinds 222 = .ok (.return_, 1) := by decide +kernel
theorem dX7_findsShares_0 : decode cX7_findsShares 0 = .ok (.iconst 0, 1) := by decide +kernel
theorem dX7_findsShares_1 : decode cX7_findsShares 1 = .ok (.istore_n 1, 1) := by decide +kernel
theorem dX7_findsShares_2 : decode cX7_findsShares 2 = .ok (.iload_n 1, 1) := by decide +kernel
theorem dX7_findsShares_3 : decode cX7_findsShares 3 = .ok (.iconst 3, 1) := by decide +kernel
theorem dX7_findsShares_4 : decode cX7_findsShares 4 = .ok (.if_icmp .ge 153, 3) := by decide +kernel
theorem dX7_findsShares_7 : decode cX7_findsShares 7 = .ok (.iconst 0, 1) := by decide +kernel
theorem dX7_findsShares_8 : decode cX7_findsShares 8 = .ok (.istore_n 2, 1) := by decide +kernel
theorem dX7_findsShares_9 : decode cX7_findsShares 9 = .ok (.iconst 0, 1) := by decide +kernel
theorem dX7_findsShares_10 : decode cX7_findsShares 10 = .ok (.istore_n 3, 1) := by decide +kernel
theorem dX7_findsShares_11 : decode cX7_findsShares 11 = .ok (.iconst 0, 1) := by decide +kernel
theorem dX7_findsShares_12 : decode cX7_findsShares 12 = .ok (.istore 4, 2) := by decide +kernel
theorem dX7_findsShares_14 : decode cX7_findsShares 14 = .ok (.iload 4, 2) := by decide +kernel
theorem dX7_findsShares_16 : decode cX7_findsShares 16 = .ok (.bipush 7, 2) := by decide +kernel
theorem dX7_findsShares_18 : decode cX7_findsShares 18 = .ok (.if_icmp .ge 65, 3) := by decide +kernel
theorem dX7_findsShares_21 : decode cX7_findsShares 21 = .ok (.iload_n 2, 1) := by decide +kernel
theorem dX7_findsShares_22 : decode cX7_findsShares 22 = .ok (.aload_n 0, 1) := by decide +kernel
theorem dX7_findsShares_23 : decode cX7_findsShares 23 = .ok (.getfield 81, 3) := by decide +kernel
theorem dX7_findsShares_26 : decode cX7_findsShares 26 = .ok (.iconst 3, 1) := by decide +kernel
theorem dX7_findsShares_27 : decode cX7_findsShares 27 = .ok (.iload 4, 2) := by decide +kernel
theorem dX7_findsShares_29 : decode cX7_findsShares 29 = .ok (.imul, 1) := by decide +kernel
theorem dX7_findsShares_30 : decode cX7_findsShares 30 = .ok (.iload_n 1, 1) := by decide +kernel
theorem dX7_findsShares_31 : decode cX7_findsShares 31 = .ok (.iadd, 1) := by decide +kernel
theorem dX7_findsShares_32 : decode cX7_findsShares 32 = .ok (.iaload, 1) := by decide +kernel
theorem dX7_findsShares_33 : decode cX7_findsShares 33 = .ok (.iadd, 1) := by decide +kernel
theorem dX7_findsShares_34 : decode cX7_findsShares 34 = .ok (.istore_n 2, 1) := by decide +kernel
theorem dX7_findsShares_35 : decode cX7_findsShares 35 = .ok (.aload_n 0, 1) := by decide +kernel
theorem dX7_findsShares_36 : decode cX7_findsShares 36 = .ok (.getfield 84, 3) := by decide +kernel
theorem dX7_findsShares_39 : decode cX7_findsShares 39 = .ok (.iconst 3, 1) := by decide +kernel
theorem dX7_findsShares_40 : decode cX7_findsShares 40 = .ok (.iload 4, 2) := by decide +kernel
theorem dX7_findsShares_42 : decode cX7_findsShares 42 = .ok (.imul, 1) := by decide +kernel
theorem dX7_findsShares_43 : decode cX7_findsShares 43 = .ok (.iload_n 1, 1) := by decide +kernel
theorem dX7_findsShares_44 : decode cX7_findsShares 44 = .ok (.iadd, 1) := by decide +kernel
theorem dX7_findsShares_45 : decode cX7_findsShares 45 = .ok (.aload_n 0, 1) := by decide +kernel
theorem dX7_findsShares_46 : decode cX7_findsShares 46 = .ok (.getfield 81, 3) := by decide +kernel
theorem dX7_findsShares_49 : decode cX7_findsShares 49 = .ok (.iconst 3, 1) := by decide +kernel
theorem dX7_findsShares_50 : decode cX7_findsShares 50 = .ok (.iload 4, 2) := by decide +kernel
theorem dX7_findsShares_52 : decode cX7_findsShares 52 = .ok (.imul, 1) := by decide +kernel
theorem dX7_findsShares_53 : decode cX7_findsShares 53 = .ok (.iload_n 1, 1) := by decide +kernel
theorem dX7_findsShares_54 : decode cX7_findsShares 54 = .ok (.iadd, 1) := by decide +kernel
theorem dX7_findsShares_55 : decode cX7_findsShares 55 = .ok (.iaload, 1) := by decide +kernel
theorem dX7_findsShares_56 : decode cX7_findsShares 56 = .ok (.bipush 15, 2) := by decide +kernel
theorem dX7_findsShares_58 : decode cX7_findsShares 58 = .ok (.idiv, 1) := by decide +kernel
theorem dX7_findsShares_59 : decode cX7_findsShares 59 = .ok (.iastore, 1) := by decide +kernel
theorem dX7_findsShares_60 : decode cX7_findsShares 60 = .ok (.iload_n 3, 1) := by decide +kernel
theorem dX7_findsShares_61 : decode cX7_findsShares 61 = .ok (.aload_n 0, 1) := by decide +kernel
theorem dX7_findsShares_62 : decode cX7_findsShares 62 = .ok (.getfield 81, 3) := by decide +kernel
theorem dX7_findsShares_65 : decode cX7_findsShares 65 = .ok (.iconst 3, 1) := by decide +kernel
theorem dX7_findsShares_66 : decode cX7_findsShares 66 = .ok (.iload 4, 2) := by decide +kernel
theorem dX7_findsShares_68 : decode cX7_findsShares 68 = .ok (.imul, 1) := by decide +kernel
theorem dX7_findsShares_69 : decode cX7_findsShares 69 = .ok (.iload_n 1, 1) := by decide +kernel
theorem dX7_findsShares_70 : decode cX7_findsShares 70 = .ok (.iadd, 1) := by decide +kernel
theorem dX7_findsShares_71 : decode cX7_findsShares 71 = .ok (.iaload, 1) := by decide +kernel
theorem dX7_findsShares_72 : decode cX7_findsShares 72 = .ok (.bipush 15, 2) := by decide +kernel
theorem dX7_findsShares_74 : decode cX7_findsShares 74 = .ok (.idiv, 1) := by decide +kernel
theorem dX7_findsShares_75 : decode cX7_findsShares 75 = .ok (.isub, 1) := by decide +kernel
theorem dX7_findsShares_76 : decode cX7_findsShares 76 = .ok (.istore_n 3, 1) := by decide +kernel
theorem dX7_findsShares_77 : decode cX7_findsShares 77 = .ok (.iinc 4 1, 3) := by decide +kernel
theorem dX7_findsShares_80 : decode cX7_findsShares 80 = .ok (.goto (-66), 3) := by decide +kernel
theorem dX7_findsShares_83 : decode cX7_findsShares 83 = .ok (.aload_n 0, 1) := by decide +kernel
theorem dX7_findsShares_84 : decode cX7_findsShares 84 = .ok (.getfield 87, 3) := by decide +kernel
theorem dX7_findsShares_87 : decode cX7_findsShares 87 = .ok (.iload_n 1, 1) := by decide +kernel
theorem dX7_findsShares_88 : decode cX7_findsShares 88 = .ok (.iload_n 2, 1) := by decide +kernel
theorem dX7_findsShares_89 : decode cX7_findsShares 89 = .ok (.bipush 7, 2) := by decide +kernel
theorem dX7_findsShares_91 : decode cX7_findsShares 91 = .ok (.iadd, 1) := by decide +kernel
theorem dX7_findsShares_92 : decode cX7_findsShares 92 = .ok (.bipush 15, 2) := by decide +kernel
theorem dX7_findsShares_94 : decode cX7_findsShares 94 = .ok (.idiv, 1) := by decide +kernel
theorem dX7_findsShares_95 : decode cX7_findsShares 95 = .ok (.iastore, 1) := by decide +kernel
theorem dX7_findsShares_96 : decode cX7_findsShares 96 = .ok (.iload_n 3, 1) := by decide +kernel
theorem dX7_findsShares_97 : decode cX7_findsShares 97 = .ok (.aload_n 0, 1) := by decide +kernel
theorem dX7_findsShares_98 : decode cX7_findsShares 98 = .ok (.getfield 87, 3) := by decide +kernel
theorem dX7_findsShares_101 : decode cX7_findsShares 101 = .ok (.iload_n 1, 1) := by decide +kernel
theorem dX7_findsShares_102 : decode cX7_findsShares 102 = .ok (.iaload, 1) := by decide +kernel
theorem dX7_findsShares_103 : decode cX7_findsShares 103 = .ok (.iadd, 1) := by decide +kernel
theorem dX7_findsShares_104 : decode cX7_findsShares 104 = .ok (.istore_n 3, 1) := by decide +kernel
theorem dX7_findsShares_105 : decode cX7_findsShares 105 = .ok (.iconst 0, 1) := by decide +kernel
theorem dX7_findsShares_106 : decode cX7_findsShares 106 = .ok (.istore 4, 2) := by decide +kernel
theorem dX7_findsShares_108 : decode cX7_findsShares 108 = .ok (.iload 4, 2) := by decide +kernel
theorem dX7_findsShares_110 : decode cX7_findsShares 110 = .ok (.bipush 7, 2) := by decide +kernel
theorem dX7_findsShares_112 : decode cX7_findsShares 112 = .ok (.if_icmp .ge 39, 3) := by decide +kernel
theorem dX7_findsShares_115 : decode cX7_findsShares 115 = .ok (.aload_n 0, 1) := by decide +kernel
theorem dX7_findsShares_116 : decode cX7_findsShares 116 = .ok (.getfield 84, 3) := by decide +kernel
theorem dX7_findsShares_119 : decode cX7_findsShares 119 = .ok (.iconst 3, 1) := by decide +kernel
theorem dX7_findsShares_120 : decode cX7_findsShares 120 = .ok (.iload 4, 2) := by decide +kernel
theorem dX7_findsShares_122 : decode cX7_findsShares 122 = .ok (.imul, 1) := by decide +kernel
theorem dX7_findsShares_123 : decode cX7_findsShares 123 = .ok (.iload_n 1, 1) := by decide +kernel
theorem dX7_findsShares_124 : decode cX7_findsShares 124 = .ok (.iadd, 1) := by decide +kernel
theorem dX7_findsShares_125 : decode cX7_findsShares 125 = .ok (.dup2, 1) := by decide +kernel
theorem dX7_findsShares_126 : decode cX7_findsShares 126 = .ok (.iaload, 1) := by decide +kernel
theorem dX7_findsShares_127 : decode cX7_findsShares 127 = .ok (.aload_n 0, 1) := by decide +kernel
theorem dX7_findsShares_128 : decode cX7_findsShares 128 = .ok (.iload 4, 2) := by decide +kernel
theorem dX7_findsShares_130 : decode cX7_findsShares 130 = .ok (.iload_n 1, 1) := by decide +kernel
theorem dX7_findsShares_131 : decode cX7_findsShares 131 = .ok (.invokevirtual 161, 3) := by decide +kernel
theorem dX7_findsShares_134 : decode cX7_findsShares 134 = .ok (.iload_n 3, 1) := by decide +kernel
theorem dX7_findsShares_135 : decode cX7_findsShares 135 = .ok (.if_icmp .ge 7, 3) := by decide +kernel
theorem dX7_findsShares_138 : decode cX7_findsShares 138 = .ok (.iconst 1, 1) := by decide +kernel
theorem dX7_findsShares_139 : decode cX7_findsShares 139 = .ok (.goto 4, 3) := by decide +kernel
theorem dX7_findsShares_142 : decode cX7_findsShares 142 = .ok (.iconst 0, 1) := by decide +kernel
theorem dX7_findsShares_143 : decode cX7_findsShares 143 = .ok (.iadd, 1) := by decide +kernel
theorem dX7_findsShares_144 : decode cX7_findsShares 144 = .ok (.iastore, 1) := by decide +kernel
theorem dX7_findsShares_145 : decode cX7_findsShares 145 = .ok (.iinc 4 1, 3) := by decide +kernel
theorem dX7_findsShares_148 : decode cX7_findsShares 148 = .ok (.goto (-40), 3) := by decide +kernel
theorem dX7_findsShares_151 : decode cX7_findsShares 151 = .ok (.iinc 1 1, 3) := by decide +kernel
theorem dX7_findsShares_154 : decode cX7_findsShares 154 = .ok (.goto (-152), 3) := by decide +kernel
theorem dX7_findsShares_157 : decode cX7_findsShares 157 = .ok (.return_, 1) := by decide +kernel
theorem dX7_ahead_0 : decode cX7_ahead 0 = .ok (.aload_n 0, 1) := by decide +kernel
theorem dX7_ahead_1 : decode cX7_ahead 1 = .ok (.getfield 81, 3) := by decide +kernel
theorem dX7_ahead_4 : decode cX7_ahead 4 = .ok (.iconst 3, 1) := by decide +kernel
theorem dX7_ahead_5 : decode cX7_ahead 5 = .ok (.iload_n 1, 1) := by decide +kernel
theorem dX7_ahead_6 : decode cX7_ahead 6 = .ok (.imul, 1) := by decide +kernel
theorem dX7_ahead_7 : decode cX7_ahead 7 = .ok (.iload_n 2, 1) := by decide +kernel
theorem dX7_ahead_8 : decode cX7_ahead 8 = .ok (.iadd, 1) := by decide +kernel
theorem dX7_ahead_9 : decode cX7_ahead 9 = .ok (.iaload, 1) := by decide +kernel
theorem dX7_ahead_10 : decode cX7_ahead 10 = .ok (.bipush 15, 2) := by decide +kernel
theorem dX7_ahead_12 : decode cX7_ahead 12 = .ok (.irem, 1) := by decide +kernel
theorem dX7_ahead_13 : decode cX7_ahead 13 = .ok (.istore_n 3, 1) := by decide +kernel
theorem dX7_ahead_14 : decode cX7_ahead 14 = .ok (.iconst 0, 1) := by decide +kernel
theorem dX7_ahead_15 : decode cX7_ahead 15 = .ok (.istore 4, 2) := by decide +kernel
theorem dX7_ahead_17 : decode cX7_ahead 17 = .ok (.iconst 0, 1) := by decide +kernel
theorem dX7_ahead_18 : decode cX7_ahead 18 = .ok (.istore 5, 2) := by decide +kernel
theorem dX7_ahead_20 : decode cX7_ahead 20 = .ok (.iload 5, 2) := by decide +kernel
theorem dX7_ahead_22 : decode cX7_ahead 22 = .ok (.bipush 7, 2) := by decide +kernel
theorem dX7_ahead_24 : decode cX7_ahead 24 = .ok (.if_icmp .ge 53, 3) := by decide +kernel
theorem dX7_ahead_27 : decode cX7_ahead 27 = .ok (.aload_n 0, 1) := by decide +kernel
theorem dX7_ahead_28 : decode cX7_ahead 28 = .ok (.getfield 81, 3) := by decide +kernel
theorem dX7_ahead_31 : decode cX7_ahead 31 = .ok (.iconst 3, 1) := by decide +kernel
theorem dX7_ahead_32 : decode cX7_ahead 32 = .ok (.iload 5, 2) := by decide +kernel
theorem dX7_ahead_34 : decode cX7_ahead 34 = .ok (.imul, 1) := by decide +kernel
theorem dX7_ahead_35 : decode cX7_ahead 35 = .ok (.iload_n 2, 1) := by decide +kernel
theorem dX7_ahead_36 : decode cX7_ahead 36 = .ok (.iadd, 1) := by decide +kernel
theorem dX7_ahead_37 : decode cX7_ahead 37 = .ok (.iaload, 1) := by decide +kernel
theorem dX7_ahead_38 : decode cX7_ahead 38 = .ok (.bipush 15, 2) := by decide +kernel
theorem dX7_ahead_40 : decode cX7_ahead 40 = .ok (.irem, 1) := by decide +kernel
theorem dX7_ahead_41 : decode cX7_ahead 41 = .ok (.istore 6, 2) := by decide +kernel
theorem dX7_ahead_43 : decode cX7_ahead 43 = .ok (.iload 4, 2) := by decide +kernel
theorem dX7_ahead_45 : decode cX7_ahead 45 = .ok (.iload 6, 2) := by decide +kernel
theorem dX7_ahead_47 : decode cX7_ahead 47 = .ok (.iload_n 3, 1) := by decide +kernel
theorem dX7_ahead_48 : decode cX7_ahead 48 = .ok (.if_icmp .gt 15, 3) := by decide +kernel
theorem dX7_ahead_51 : decode cX7_ahead 51 = .ok (.iload 6, 2) := by decide +kernel
theorem dX7_ahead_53 : decode cX7_ahead 53 = .ok (.iload_n 3, 1) := by decide +kernel
theorem dX7_ahead_54 : decode cX7_ahead 54 = .ok (.if_icmp .ne 13, 3) := by decide +kernel
theorem dX7_ahead_57 : decode cX7_ahead 57 = .ok (.iload 5, 2) := by decide +kernel
theorem dX7_ahead_59 : decode cX7_ahead 59 = .ok (.iload_n 1, 1) := by decide +kernel
theorem dX7_ahead_60 : decode cX7_ahead 60 = .ok (.if_icmp .ge 7, 3) := by decide +kernel
theorem dX7_ahead_63 : decode cX7_ahead 63 = .ok (.iconst 1, 1) := by decide +kernel
theorem dX7_ahead_64 : decode cX7_ahead 64 = .ok (.goto 4, 3) := by decide +kernel
theorem dX7_ahead_67 : decode cX7_ahead 67 = .ok (.iconst 0, 1) := by decide +kernel
theorem dX7_ahead_68 : decode cX7_ahead 68 = .ok (.iadd, 1) := by decide +kernel
theorem dX7_ahead_69 : decode cX7_ahead 69 = .ok (.istore 4, 2) := by decide +kernel
theorem dX7_ahead_71 : decode cX7_ahead 71 = .ok (.iinc 5 1, 3) := by decide +kernel
theorem dX7_ahead_74 : decode cX7_ahead 74 = .ok (.goto (-54), 3) := by decide +kernel
theorem dX7_ahead_77 : decode cX7_ahead 77 = .ok (.iload 4, 2) := by decide +kernel
theorem dX7_ahead_79 : decode cX7_ahead 79 = .ok (.ireturn, 1) := by decide +kernel
theorem dX7_applies_0 : decode cX7_applies 0 = .ok (.iload_n 2, 1) := by decide +kernel
theorem dX7_applies_1 : decode cX7_applies 1 = .ok (.sipush 1440, 3) := by decide +kernel
theorem dX7_applies_4 : decode cX7_applies 4 = .ok (.irem, 1) := by decide +kernel
theorem dX7_applies_5 : decode cX7_applies 5 = .ok (.istore_n 3, 1) := by decide +kernel
theorem dX7_applies_6 : decode cX7_applies 6 = .ok (.aload_n 0, 1) := by decide +kernel
theorem dX7_applies_7 : decode cX7_applies 7 = .ok (.getfield 51, 3) := by decide +kernel
theorem dX7_applies_10 : decode cX7_applies 10 = .ok (.iload_n 1, 1) := by decide +kernel
theorem dX7_applies_11 : decode cX7_applies 11 = .ok (.iaload, 1) := by decide +kernel
theorem dX7_applies_12 : decode cX7_applies 12 = .ok (.istore 4, 2) := by decide +kernel
theorem dX7_applies_14 : decode cX7_applies 14 = .ok (.aload_n 0, 1) := by decide +kernel
theorem dX7_applies_15 : decode cX7_applies 15 = .ok (.getfield 54, 3) := by decide +kernel
theorem dX7_applies_18 : decode cX7_applies 18 = .ok (.iload_n 1, 1) := by decide +kernel
theorem dX7_applies_19 : decode cX7_applies 19 = .ok (.iaload, 1) := by decide +kernel
theorem dX7_applies_20 : decode cX7_applies 20 = .ok (.istore 5, 2) := by decide +kernel
theorem dX7_applies_22 : decode cX7_applies 22 = .ok (.iload 4, 2) := by decide +kernel
theorem dX7_applies_24 : decode cX7_applies 24 = .ok (.iload 5, 2) := by decide +kernel
theorem dX7_applies_26 : decode cX7_applies 26 = .ok (.if_icmp .ge 16, 3) := by decide +kernel
theorem dX7_applies_29 : decode cX7_applies 29 = .ok (.iload_n 3, 1) := by decide +kernel
theorem dX7_applies_30 : decode cX7_applies 30 = .ok (.iload 4, 2) := by decide +kernel
theorem dX7_applies_32 : decode cX7_applies 32 = .ok (.iload 5, 2) := by decide +kernel
theorem dX7_applies_34 : decode cX7_applies 34 = .ok (.iconst 1, 1) := by decide +kernel
theorem dX7_applies_35 : decode cX7_applies 35 = .ok (.isub, 1) := by decide +kernel
theorem dX7_applies_36 : decode cX7_applies 36 = .ok (.invokestatic 97, 3) := by decide +kernel
theorem dX7_applies_39 : decode cX7_applies 39 = .ok (.goto 27, 3) := by decide +kernel
theorem dX7_applies_42 : decode cX7_applies 42 = .ok (.iload 4, 2) := by decide +kernel
theorem dX7_applies_44 : decode cX7_applies 44 = .ok (.iload 5, 2) := by decide +kernel
theorem dX7_applies_46 : decode cX7_applies 46 = .ok (.if_icmp .eq 15, 3) := by decide +kernel
theorem dX7_applies_49 : decode cX7_applies 49 = .ok (.iload_n 3, 1) := by decide +kernel
theorem dX7_applies_50 : decode cX7_applies 50 = .ok (.iload 4, 2) := by decide +kernel
theorem dX7_applies_52 : decode cX7_applies 52 = .ok (.if_icmp .ge 9, 3) := by decide +kernel
theorem dX7_applies_55 : decode cX7_applies 55 = .ok (.iload_n 3, 1) := by decide +kernel
theorem dX7_applies_56 : decode cX7_applies 56 = .ok (.iload 5, 2) := by decide +kernel
theorem dX7_applies_58 : decode cX7_applies 58 = .ok (.if_icmp .ge 7, 3) := by decide +kernel
theorem dX7_applies_61 : decode cX7_applies 61 = .ok (.iconst 1, 1) := by decide +kernel
theorem dX7_applies_62 : decode cX7_applies 62 = .ok (.goto 4, 3) := by decide +kernel
theorem dX7_applies_65 : decode cX7_applies 65 = .ok (.iconst 0, 1) := by decide +kernel
theorem dX7_applies_66 : decode cX7_applies 66 = .ok (.istore 6, 2) := by decide +kernel
theorem dX7_applies_68 : decode cX7_applies 68 = .ok (.aload_n 0, 1) := by decide +kernel
theorem dX7_applies_69 : decode cX7_applies 69 = .ok (.getfield 48, 3) := by decide +kernel
theorem dX7_applies_72 : decode cX7_applies 72 = .ok (.iload_n 1, 1) := by decide +kernel
theorem dX7_applies_73 : decode cX7_applies 73 = .ok (.iaload, 1) := by decide +kernel
theorem dX7_applies_74 : decode cX7_applies 74 = .ok (.iload_n 2, 1) := by decide +kernel
theorem dX7_applies_75 : decode cX7_applies 75 = .ok (.sipush 1440, 3) := by decide +kernel
theorem dX7_applies_78 : decode cX7_applies 78 = .ok (.idiv, 1) := by decide +kernel
theorem dX7_applies_79 : decode cX7_applies 79 = .ok (.ishr, 1) := by decide +kernel
theorem dX7_applies_80 : decode cX7_applies 80 = .ok (.iconst 2, 1) := by decide +kernel
theorem dX7_applies_81 : decode cX7_applies 81 = .ok (.irem, 1) := by decide +kernel
theorem dX7_applies_82 : decode cX7_applies 82 = .ok (.iconst 1, 1) := by decide +kernel
theorem dX7_applies_83 : decode cX7_applies 83 = .ok (.if_icmp .ne 12, 3) := by decide +kernel
theorem dX7_applies_86 : decode cX7_applies 86 = .ok (.iload 6, 2) := by decide +kernel
theorem dX7_applies_88 : decode cX7_applies 88 = .ok (.ifCond .eq 7, 3) := by decide +kernel
theorem dX7_applies_91 : decode cX7_applies 91 = .ok (.iconst 1, 1) := by decide +kernel
theorem dX7_applies_92 : decode cX7_applies 92 = .ok (.goto 4, 3) := by decide +kernel
theorem dX7_applies_95 : decode cX7_applies 95 = .ok (.iconst 0, 1) := by decide +kernel
theorem dX7_applies_96 : decode cX7_applies 96 = .ok (.ireturn, 1) := by decide +kernel
theorem dX7_extra_0 : decode cX7_extra 0 = .ok (.iconst 0, 1) := by decide +kernel
theorem dX7_extra_1 : decode cX7_extra 1 = .ok (.istore_n 1, 1) := by decide +kernel
theorem dX7_extra_2 : decode cX7_extra 2 = .ok (.iconst 0, 1) := by decide +kernel
theorem dX7_extra_3 : decode cX7_extra 3 = .ok (.istore_n 2, 1) := by decide +kernel
theorem dX7_extra_4 : decode cX7_extra 4 = .ok (.iload_n 2, 1) := by decide +kernel
theorem dX7_extra_5 : decode cX7_extra 5 = .ok (.sipush 10080, 3) := by decide +kernel
theorem dX7_extra_8 : decode cX7_extra 8 = .ok (.if_icmp .ge 76, 3) := by decide +kernel
theorem dX7_extra_11 : decode cX7_extra 11 = .ok (.iconst 0, 1) := by decide +kernel
theorem dX7_extra_12 : decode cX7_extra 12 = .ok (.istore_n 3, 1) := by decide +kernel
theorem dX7_extra_13 : decode cX7_extra 13 = .ok (.iconst 0, 1) := by decide +kernel
theorem dX7_extra_14 : decode cX7_extra 14 = .ok (.istore 4, 2) := by decide +kernel
theorem dX7_extra_16 : decode cX7_extra 16 = .ok (.iload 4, 2) := by decide +kernel
theorem dX7_extra_18 : decode cX7_extra 18 = .ok (.aload_n 0, 1) := by decide +kernel
theorem dX7_extra_19 : decode cX7_extra 19 = .ok (.getfield 122, 3) := by decide +kernel
theorem dX7_extra_22 : decode cX7_extra 22 = .ok (.if_icmp .ge 52, 3) := by decide +kernel
theorem dX7_extra_25 : decode cX7_extra 25 = .ok (.aload_n 0, 1) := by decide +kernel
theorem dX7_extra_26 : decode cX7_extra 26 = .ok (.getfield 72, 3) := by decide +kernel
theorem dX7_extra_29 : decode cX7_extra 29 = .ok (.iload_n 2, 1) := by decide +kernel
theorem dX7_extra_30 : decode cX7_extra 30 = .ok (.iaload, 1) := by decide +kernel
theorem dX7_extra_31 : decode cX7_extra 31 = .ok (.iconst (-1), 1) := by decide +kernel
theorem dX7_extra_32 : decode cX7_extra 32 = .ok (.if_icmp .eq 42, 3) := by decide +kernel
theorem dX7_extra_35 : decode cX7_extra 35 = .ok (.aload_n 0, 1) := by decide +kernel
theorem dX7_extra_36 : decode cX7_extra 36 = .ok (.getfield 57, 3) := by decide +kernel
theorem dX7_extra_39 : decode cX7_extra 39 = .ok (.iload 4, 2) := by decide +kernel
theorem dX7_extra_41 : decode cX7_extra 41 = .ok (.iaload, 1) := by decide +kernel
theorem dX7_extra_42 : decode cX7_extra 42 = .ok (.iload_n 3, 1) := by decide +kernel
theorem dX7_extra_43 : decode cX7_extra 43 = .ok (.if_icmp .le 23, 3) := by decide +kernel
theorem dX7_extra_46 : decode cX7_extra 46 = .ok (.aload_n 0, 1) := by decide +kernel
theorem dX7_extra_47 : decode cX7_extra 47 = .ok (.iload 4, 2) := by decide +kernel
theorem dX7_extra_49 : decode cX7_extra 49 = .ok (.iload_n 2, 1) := by decide +kernel
theorem dX7_extra_50 : decode cX7_extra 50 = .ok (.invokevirtual 164, 3) := by decide +kernel
theorem dX7_extra_53 : decode cX7_extra 53 = .ok (.ifCond .eq 13, 3) := by decide +kernel
theorem dX7_extra_56 : decode cX7_extra 56 = .ok (.aload_n 0, 1) := by decide +kernel
theorem dX7_extra_57 : decode cX7_extra 57 = .ok (.getfield 57, 3) := by decide +kernel
theorem dX7_extra_60 : decode cX7_extra 60 = .ok (.iload 4, 2) := by decide +kernel
theorem dX7_extra_62 : decode cX7_extra 62 = .ok (.iaload, 1) := by decide +kernel
theorem dX7_extra_63 : decode cX7_extra 63 = .ok (.goto 4, 3) := by decide +kernel
theorem dX7_extra_66 : decode cX7_extra 66 = .ok (.iload_n 3, 1) := by decide +kernel
theorem dX7_extra_67 : decode cX7_extra 67 = .ok (.istore_n 3, 1) := by decide +kernel
theorem dX7_extra_68 : decode cX7_extra 68 = .ok (.iinc 4 1, 3) := by decide +kernel
theorem dX7_extra_71 : decode cX7_extra 71 = .ok (.goto (-55), 3) := by decide +kernel
theorem dX7_extra_74 : decode cX7_extra 74 = .ok (.iload_n 1, 1) := by decide +kernel
theorem dX7_extra_75 : decode cX7_extra 75 = .ok (.iload_n 3, 1) := by decide +kernel
theorem dX7_extra_76 : decode cX7_extra 76 = .ok (.iadd, 1) := by decide +kernel
theorem dX7_extra_77 : decode cX7_extra 77 = .ok (.istore_n 1, 1) := by decide +kernel
theorem dX7_extra_78 : decode cX7_extra 78 = .ok (.iinc 2 1, 3) := by decide +kernel
theorem dX7_extra_81 : decode cX7_extra 81 = .ok (.goto (-77), 3) := by decide +kernel
theorem dX7_extra_84 : decode cX7_extra 84 = .ok (.iload_n 1, 1) := by decide +kernel
theorem dX7_extra_85 : decode cX7_extra 85 = .ok (.bipush 30, 2) := by decide +kernel
theorem dX7_extra_87 : decode cX7_extra 87 = .ok (.iadd, 1) := by decide +kernel
theorem dX7_extra_88 : decode cX7_extra 88 = .ok (.bipush 60, 2) := by decide +kernel
theorem dX7_extra_90 : decode cX7_extra 90 = .ok (.idiv, 1) := by decide +kernel
theorem dX7_extra_91 : decode cX7_extra 91 = .ok (.ireturn, 1) := by decide +kernel
theorem dX7_payOf_0 : decode cX7_payOf 0 = .ok (.aload_n 0, 1) := by decide +kernel
theorem dX7_payOf_1 : decode cX7_payOf 1 = .ok (.iload_n 1, 1) := by decide +kernel
theorem dX7_payOf_2 : decode cX7_payOf 2 = .ok (.invokevirtual 167, 3) := by decide +kernel
theorem dX7_payOf_5 : decode cX7_payOf 5 = .ok (.aload_n 0, 1) := by decide +kernel
theorem dX7_payOf_6 : decode cX7_payOf 6 = .ok (.getfield 7, 3) := by decide +kernel
theorem dX7_payOf_9 : decode cX7_payOf 9 = .ok (.iload_n 1, 1) := by decide +kernel
theorem dX7_payOf_10 : decode cX7_payOf 10 = .ok (.iaload, 1) := by decide +kernel
theorem dX7_payOf_11 : decode cX7_payOf 11 = .ok (.iconst 2, 1) := by decide +kernel
theorem dX7_payOf_12 : decode cX7_payOf 12 = .ok (.aload_n 0, 1) := by decide +kernel
theorem dX7_payOf_13 : decode cX7_payOf 13 = .ok (.getfield 87, 3) := by decide +kernel
theorem dX7_payOf_16 : decode cX7_payOf 16 = .ok (.iconst 0, 1) := by decide +kernel
theorem dX7_payOf_17 : decode cX7_payOf 17 = .ok (.iaload, 1) := by decide +kernel
theorem dX7_payOf_18 : decode cX7_payOf 18 = .ok (.imul, 1) := by decide +kernel
theorem dX7_payOf_19 : decode cX7_payOf 19 = .ok (.iconst 3, 1) := by decide +kernel
theorem dX7_payOf_20 : decode cX7_payOf 20 = .ok (.aload_n 0, 1) := by decide +kernel
theorem dX7_payOf_21 : decode cX7_payOf 21 = .ok (.getfield 87, 3) := by decide +kernel
theorem dX7_payOf_24 : decode cX7_payOf 24 = .ok (.iconst 1, 1) := by decide +kernel
theorem dX7_payOf_25 : decode cX7_payOf 25 = .ok (.iaload, 1) := by decide +kernel
theorem dX7_payOf_26 : decode cX7_payOf 26 = .ok (.imul, 1) := by decide +kernel
theorem dX7_payOf_27 : decode cX7_payOf 27 = .ok (.iadd, 1) := by decide +kernel
theorem dX7_payOf_28 : decode cX7_payOf 28 = .ok (.iconst 4, 1) := by decide +kernel
theorem dX7_payOf_29 : decode cX7_payOf 29 = .ok (.aload_n 0, 1) := by decide +kernel
theorem dX7_payOf_30 : decode cX7_payOf 30 = .ok (.getfield 87, 3) := by decide +kernel
theorem dX7_payOf_33 : decode cX7_payOf 33 = .ok (.iconst 2, 1) := by decide +kernel
theorem dX7_payOf_34 : decode cX7_payOf 34 = .ok (.iaload, 1) := by decide +kernel
theorem dX7_payOf_35 : decode cX7_payOf 35 = .ok (.imul, 1) := by decide +kernel
theorem dX7_payOf_36 : decode cX7_payOf 36 = .ok (.iadd, 1) := by decide +kernel
theorem dX7_payOf_37 : decode cX7_payOf 37 = .ok (.imul, 1) := by decide +kernel
theorem dX7_payOf_38 : decode cX7_payOf 38 = .ok (.istore_n 2, 1) := by decide +kernel
theorem dX7_payOf_39 : decode cX7_payOf 39 = .ok (.iload_n 2, 1) := by decide +kernel
theorem dX7_payOf_40 : decode cX7_payOf 40 = .ok (.iconst 4, 1) := by decide +kernel
theorem dX7_payOf_41 : decode cX7_payOf 41 = .ok (.iadd, 1) := by decide +kernel
theorem dX7_payOf_42 : decode cX7_payOf 42 = .ok (.bipush 8, 2) := by decide +kernel
theorem dX7_payOf_44 : decode cX7_payOf 44 = .ok (.idiv, 1) := by decide +kernel
theorem dX7_payOf_45 : decode cX7_payOf 45 = .ok (.aload_n 0, 1) := by decide +kernel
theorem dX7_payOf_46 : decode cX7_payOf 46 = .ok (.invokevirtual 170, 3) := by decide +kernel
theorem dX7_payOf_49 : decode cX7_payOf 49 = .ok (.iadd, 1) := by decide +kernel
theorem dX7_payOf_50 : decode cX7_payOf 50 = .ok (.ireturn, 1) := by decide +kernel
theorem dX7_closeWeek_0 : decode cX7_closeWeek 0 = .ok (.aload_n 0, 1) := by decide +kernel
theorem dX7_closeWeek_1 : decode cX7_closeWeek 1 = .ok (.aload_n 0, 1) := by decide +kernel
theorem dX7_closeWeek_2 : decode cX7_closeWeek 2 = .ok (.iload_n 1, 1) := by decide +kernel
theorem dX7_closeWeek_3 : decode cX7_closeWeek 3 = .ok (.invokevirtual 102, 3) := by decide +kernel
theorem dX7_closeWeek_6 : decode cX7_closeWeek 6 = .ok (.ifCond .ne 7, 3) := by decide +kernel
theorem dX7_closeWeek_9 : decode cX7_closeWeek 9 = .ok (.iconst 1, 1) := by decide +kernel
theorem dX7_closeWeek_10 : decode cX7_closeWeek 10 = .ok (.goto 26, 3) := by decide +kernel
theorem dX7_closeWeek_13 : decode cX7_closeWeek 13 = .ok (.aload_n 0, 1) := by decide +kernel
theorem dX7_closeWeek_14 : decode cX7_closeWeek 14 = .ok (.getfield 20, 3) := by decide +kernel
theorem dX7_closeWeek_17 : decode cX7_closeWeek 17 = .ok (.iload_n 1, 1) := by decide +kernel
theorem dX7_closeWeek_18 : decode cX7_closeWeek 18 = .ok (.iaload, 1) := by decide +kernel
theorem dX7_closeWeek_19 : decode cX7_closeWeek 19 = .ok (.ifCond .ne 16, 3) := by decide +kernel
theorem dX7_closeWeek_22 : decode cX7_closeWeek 22 = .ok (.aload_n 0, 1) := by decide +kernel
theorem dX7_closeWeek_23 : decode cX7_closeWeek 23 = .ok (.getfield 30, 3) := by decide +kernel
theorem dX7_closeWeek_26 : decode cX7_closeWeek 26 = .ok (.iload_n 1, 1) := by decide +kernel
theorem dX7_closeWeek_27 : decode cX7_closeWeek 27 = .ok (.iaload, 1) := by decide +kernel
theorem dX7_closeWeek_28 : decode cX7_closeWeek 28 = .ok (.ifCond .ne 7, 3) := by decide +kernel
theorem dX7_closeWeek_31 : decode cX7_closeWeek 31 = .ok (.iconst 2, 1) := by decide +kernel
theorem dX7_closeWeek_32 : decode cX7_closeWeek 32 = .ok (.goto 4, 3) := by decide +kernel
theorem dX7_closeWeek_35 : decode cX7_closeWeek 35 = .ok (.iconst 0, 1) := by decide +kernel
theorem dX7_closeWeek_36 : decode cX7_closeWeek 36 = .ok (.putfield 90, 3) := by decide +kernel
theorem dX7_closeWeek_39 : decode cX7_closeWeek 39 = .ok (.aload_n 0, 1) := by decide +kernel
theorem dX7_closeWeek_40 : decode cX7_closeWeek 40 = .ok (.getfield 90, 3) := by decide +kernel
theorem dX7_closeWeek_43 : decode cX7_closeWeek 43 = .ok (.ifCond .le 5, 3) := by decide +kernel
theorem dX7_closeWeek_46 : decode cX7_closeWeek 46 = .ok (.iconst 0, 1) := by decide +kernel
theorem dX7_closeWeek_47 : decode cX7_closeWeek 47 = .ok (.ireturn, 1) := by decide +kernel
theorem dX7_closeWeek_48 : decode cX7_closeWeek 48 = .ok (.aload_n 0, 1) := by decide +kernel
theorem dX7_closeWeek_49 : decode cX7_closeWeek 49 = .ok (.iload_n 1, 1) := by decide +kernel
theorem dX7_closeWeek_50 : decode cX7_closeWeek 50 = .ok (.invokevirtual 174, 3) := by decide +kernel
theorem dX7_closeWeek_53 : decode cX7_closeWeek 53 = .ok (.istore_n 2, 1) := by decide +kernel
theorem dX7_closeWeek_54 : decode cX7_closeWeek 54 = .ok (.aload_n 0, 1) := by decide +kernel
theorem dX7_closeWeek_55 : decode cX7_closeWeek 55 = .ok (.getfield 16, 3) := by decide +kernel
theorem dX7_closeWeek_58 : decode cX7_closeWeek 58 = .ok (.iload_n 1, 1) := by decide +kernel
theorem dX7_closeWeek_59 : decode cX7_closeWeek 59 = .ok (.dup2, 1) := by decide +kernel
theorem dX7_closeWeek_60 : decode cX7_closeWeek 60 = .ok (.laload, 1) := by decide +kernel
theorem dX7_closeWeek_61 : decode cX7_closeWeek 61 = .ok (.iload_n 2, 1) := by decide +kernel
theorem dX7_closeWeek_62 : decode cX7_closeWeek 62 = .ok (.i2l, 1) := by decide +kernel
theorem dX7_closeWeek_63 : decode cX7_closeWeek 63 = .ok (.ladd, 1) := by decide +kernel
theorem dX7_closeWeek_64 : decode cX7_closeWeek 64 = .ok (.lastore, 1) := by decide +kernel
theorem dX7_closeWeek_65 : decode cX7_closeWeek 65 = .ok (.aload_n 0, 1) := by decide +kernel
theorem dX7_closeWeek_66 : decode cX7_closeWeek 66 = .ok (.getfield 13, 3) := by decide +kernel
theorem dX7_closeWeek_69 : decode cX7_closeWeek 69 = .ok (.iload_n 1, 1) := by decide +kernel
theorem dX7_closeWeek_70 : decode cX7_closeWeek 70 = .ok (.dup2, 1) := by decide +kernel
theorem dX7_closeWeek_71 : decode cX7_closeWeek 71 = .ok (.iaload, 1) := by decide +kernel
theorem dX7_closeWeek_72 : decode cX7_closeWeek 72 = .ok (.iconst 1, 1) := by decide +kernel
theorem dX7_closeWeek_73 : decode cX7_closeWeek 73 = .ok (.iadd, 1) := by decide +kernel
theorem dX7_closeWeek_74 : decode cX7_closeWeek 74 = .ok (.iastore, 1) := by decide +kernel
theorem dX7_closeWeek_75 : decode cX7_closeWeek 75 = .ok (.aload_n 0, 1) := by decide +kernel
theorem dX7_closeWeek_76 : decode cX7_closeWeek 76 = .ok (.getfield 20, 3) := by decide +kernel
theorem dX7_closeWeek_79 : decode cX7_closeWeek 79 = .ok (.iload_n 1, 1) := by decide +kernel
theorem dX7_closeWeek_80 : decode cX7_closeWeek 80 = .ok (.iconst 0, 1) := by decide +kernel
theorem dX7_closeWeek_81 : decode cX7_closeWeek 81 = .ok (.iastore, 1) := by decide +kernel
theorem dX7_closeWeek_82 : decode cX7_closeWeek 82 = .ok (.aload_n 0, 1) := by decide +kernel
theorem dX7_closeWeek_83 : decode cX7_closeWeek 83 = .ok (.getfield 30, 3) := by decide +kernel
theorem dX7_closeWeek_86 : decode cX7_closeWeek 86 = .ok (.iload_n 1, 1) := by decide +kernel
theorem dX7_closeWeek_87 : decode cX7_closeWeek 87 = .ok (.iconst 0, 1) := by decide +kernel
theorem dX7_closeWeek_88 : decode cX7_closeWeek 88 = .ok (.iastore, 1) := by decide +kernel
theorem dX7_closeWeek_89 : decode cX7_closeWeek 89 = .ok (.aload_n 0, 1) := by decide +kernel
theorem dX7_closeWeek_90 : decode cX7_closeWeek 90 = .ok (.getfield 39, 3) := by decide +kernel
theorem dX7_closeWeek_93 : decode cX7_closeWeek 93 = .ok (.iload_n 1, 1) := by decide +kernel
theorem dX7_closeWeek_94 : decode cX7_closeWeek 94 = .ok (.iconst 0, 1) := by decide +kernel
theorem dX7_closeWeek_95 : decode cX7_closeWeek 95 = .ok (.iastore, 1) := by decide +kernel
theorem dX7_closeWeek_96 : decode cX7_closeWeek 96 = .ok (.iload_n 2, 1) := by decide +kernel
theorem dX7_closeWeek_97 : decode cX7_closeWeek 97 = .ok (.ireturn, 1) := by decide +kernel
theorem dX7_employees_0 : decode cX7_employees 0 = .ok (.aload_n 0, 1) := by decide +kernel
theorem dX7_employees_1 : decode cX7_employees 1 = .ok (.iconst 0, 1) := by decide +kernel
theorem dX7_employees_2 : decode cX7_employees 2 = .ok (.putfield 90, 3) := by decide +kernel
theorem dX7_employees_5 : decode cX7_employees 5 = .ok (.aload_n 0, 1) := by decide +kernel
theorem dX7_employees_6 : decode cX7_employees 6 = .ok (.getfield 94, 3) := by decide +kernel
theorem dX7_employees_9 : decode cX7_employees 9 = .ok (.ireturn, 1) := by decide +kernel
theorem dX7_closedWeeks_0 : decode cX7_closedWeeks 0 = .ok (.aload_n 0, 1) := by decide +kernel
theorem dX7_closedWeeks_1 : decode cX7_closedWeeks 1 = .ok (.iconst 0, 1) := by decide +kernel
theorem dX7_closedWeeks_2 : decode cX7_closedWeeks 2 = .ok (.putfield 90, 3) := by decide +kernel
theorem dX7_closedWeeks_5 : decode cX7_closedWeeks 5 = .ok (.aload_n 0, 1) := by decide +kernel
theorem dX7_closedWeeks_6 : decode cX7_closedWeeks 6 = .ok (.iload_n 1, 1) := by decide +kernel
theorem dX7_closedWeeks_7 : decode cX7_closedWeeks 7 = .ok (.invokevirtual 102, 3) := by decide +kernel
theorem dX7_closedWeeks_10 : decode cX7_closedWeeks 10 = .ok (.ifCond .eq 12, 3) := by decide +kernel
theorem dX7_closedWeeks_13 : decode cX7_closedWeeks 13 = .ok (.aload_n 0, 1) := by decide +kernel
theorem dX7_closedWeeks_14 : decode cX7_closedWeeks 14 = .ok (.getfield 13, 3) := by decide +kernel
theorem dX7_closedWeeks_17 : decode cX7_closedWeeks 17 = .ok (.iload_n 1, 1) := by decide +kernel
theorem dX7_closedWeeks_18 : decode cX7_closedWeeks 18 = .ok (.iaload, 1) := by decide +kernel
theorem dX7_closedWeeks_19 : decode cX7_closedWeeks 19 = .ok (.goto 8, 3) := by decide +kernel
theorem dX7_closedWeeks_22 : decode cX7_closedWeeks 22 = .ok (.aload_n 0, 1) := by decide +kernel
theorem dX7_closedWeeks_23 : decode cX7_closedWeeks 23 = .ok (.iconst 1, 1) := by decide +kernel
theorem dX7_closedWeeks_24 : decode cX7_closedWeeks 24 = .ok (.invokevirtual 178, 3) := by decide +kernel
theorem dX7_closedWeeks_27 : decode cX7_closedWeeks 27 = .ok (.ireturn, 1) := by decide +kernel
theorem dX7_earned_0 : decode cX7_earned 0 = .ok (.aload_n 0, 1) := by decide +kernel
theorem dX7_earned_1 : decode cX7_earned 1 = .ok (.aload_n 0, 1) := by decide +kernel
theorem dX7_earned_2 : decode cX7_earned 2 = .ok (.iload_n 1, 1) := by decide +kernel
theorem dX7_earned_3 : decode cX7_earned 3 = .ok (.invokevirtual 102, 3) := by decide +kernel
theorem dX7_earned_6 : decode cX7_earned 6 = .ok (.ifCond .eq 7, 3) := by decide +kernel
theorem dX7_earned_9 : decode cX7_earned 9 = .ok (.iconst 0, 1) := by decide +kernel
theorem dX7_earned_10 : decode cX7_earned 10 = .ok (.goto 4, 3) := by decide +kernel
theorem dX7_earned_13 : decode cX7_earned 13 = .ok (.iconst 1, 1) := by decide +kernel
theorem dX7_earned_14 : decode cX7_earned 14 = .ok (.putfield 90, 3) := by decide +kernel
theorem dX7_earned_17 : decode cX7_earned 17 = .ok (.aload_n 0, 1) := by decide +kernel
theorem dX7_earned_18 : decode cX7_earned 18 = .ok (.getfield 90, 3) := by decide +kernel
theorem dX7_earned_21 : decode cX7_earned 21 = .ok (.ifCond .le 7, 3) := by decide +kernel
theorem dX7_earned_24 : decode cX7_earned 24 = .ok (.lconst 0, 1) := by decide +kernel
theorem dX7_earned_25 : decode cX7_earned 25 = .ok (.goto 9, 3) := by decide +kernel
theorem dX7_earned_28 : decode cX7_earned 28 = .ok (.aload_n 0, 1) := by decide +kernel
theorem dX7_earned_29 : decode cX7_earned 29 = .ok (.getfield 16, 3) := by decide +kernel
theorem dX7_earned_32 : decode cX7_earned 32 = .ok (.iload_n 1, 1) := by decide +kernel
theorem dX7_earned_33 : decode cX7_earned 33 = .ok (.laload, 1) := by decide +kernel
theorem dX7_earned_34 : decode cX7_earned 34 = .ok (.lreturn, 1) := by decide +kernel
theorem dX7_looks_0 : decode cX7_looks 0 = .ok (.aload_n 0, 1) := by decide +kernel
theorem dX7_looks_1 : decode cX7_looks 1 = .ok (.aload_n 0, 1) := by decide +kernel
theorem dX7_looks_2 : decode cX7_looks 2 = .ok (.iload_n 1, 1) := by decide +kernel
theorem dX7_looks_3 : decode cX7_looks 3 = .ok (.invokevirtual 102, 3) := by decide +kernel
theorem dX7_looks_6 : decode cX7_looks 6 = .ok (.ifCond .eq 7, 3) := by decide +kernel
theorem dX7_looks_9 : decode cX7_looks 9 = .ok (.iconst 0, 1) := by decide +kernel
theorem dX7_looks_10 : decode cX7_looks 10 = .ok (.goto 4, 3) := by decide +kernel
theorem dX7_looks_13 : decode cX7_looks 13 = .ok (.iconst 1, 1) := by decide +kernel
theorem dX7_looks_14 : decode cX7_looks 14 = .ok (.putfield 90, 3) := by decide +kernel
theorem dX7_looks_17 : decode cX7_looks 17 = .ok (.aload_n 0, 1) := by decide +kernel
theorem dX7_looks_18 : decode cX7_looks 18 = .ok (.getfield 90, 3) := by decide +kernel
theorem dX7_looks_21 : decode cX7_looks 21 = .ok (.ifCond .ne 8, 3) := by decide +kernel
theorem dX7_looks_24 : decode cX7_looks 24 = .ok (.aload_n 0, 1) := by decide +kernel
theorem dX7_looks_25 : decode cX7_looks 25 = .ok (.iload_n 1, 1) := by decide +kernel
theorem dX7_looks_26 : decode cX7_looks 26 = .ok (.invokevirtual 167, 3) := by decide +kernel
theorem dX7_looks_29 : decode cX7_looks 29 = .ok (.aload_n 0, 1) := by decide +kernel
theorem dX7_looks_30 : decode cX7_looks 30 = .ok (.getfield 90, 3) := by decide +kernel
theorem dX7_looks_33 : decode cX7_looks 33 = .ok (.ifCond .ne 7, 3) := by decide +kernel
theorem dX7_looks_36 : decode cX7_looks 36 = .ok (.iconst 1, 1) := by decide +kernel
theorem dX7_looks_37 : decode cX7_looks 37 = .ok (.goto 4, 3) := by decide +kernel
theorem dX7_looks_40 : decode cX7_looks 40 = .ok (.iconst 0, 1) := by decide +kernel
theorem dX7_looks_41 : decode cX7_looks 41 = .ok (.ireturn, 1) := by decide +kernel
theorem dX7_shifts_0 : decode cX7_shifts 0 = .ok (.aload_n 0, 1) := by decide +kernel
theorem dX7_shifts_1 : decode cX7_shifts 1 = .ok (.iload_n 1, 1) := by decide +kernel
theorem dX7_shifts_2 : decode cX7_shifts 2 = .ok (.invokevirtual 181, 3) := by decide +kernel
theorem dX7_shifts_5 : decode cX7_shifts 5 = .ok (.ifCond .eq 10, 3) := by decide +kernel
theorem dX7_shifts_8 : decode cX7_shifts 8 = .ok (.aload_n 0, 1) := by decide +kernel
theorem dX7_shifts_9 : decode cX7_shifts 9 = .ok (.getfield 125, 3) := by decide +kernel
theorem dX7_shifts_12 : decode cX7_shifts 12 = .ok (.goto 4, 3) := by decide +kernel
theorem dX7_shifts_15 : decode cX7_shifts 15 = .ok (.iconst 0, 1) := by decide +kernel
theorem dX7_shifts_16 : decode cX7_shifts 16 = .ok (.ireturn, 1) := by decide +kernel
theorem dX7_shiftBegin_0 : decode cX7_shiftBegin 0 = .ok (.aload_n 0, 1) := by decide +kernel
theorem dX7_shiftBegin_1 : decode cX7_shiftBegin 1 = .ok (.iload_n 1, 1) := by decide +kernel
theorem dX7_shiftBegin_2 : decode cX7_shiftBegin 2 = .ok (.invokevirtual 181, 3) := by decide +kernel
theorem dX7_shiftBegin_5 : decode cX7_shiftBegin 5 = .ok (.ifCond .eq 21, 3) := by decide +kernel
theorem dX7_shiftBegin_8 : decode cX7_shiftBegin 8 = .ok (.iload_n 2, 1) := by decide +kernel
theorem dX7_shiftBegin_9 : decode cX7_shiftBegin 9 = .ok (.iconst 0, 1) := by decide +kernel
theorem dX7_shiftBegin_10 : decode cX7_shiftBegin 10 = .ok (.aload_n 0, 1) := by decide +kernel
theorem dX7_shiftBegin_11 : decode cX7_shiftBegin 11 = .ok (.getfield 125, 3) := by decide +kernel
theorem dX7_shiftBegin_14 : decode cX7_shiftBegin 14 = .ok (.iconst 1, 1) := by decide +kernel
theorem dX7_shiftBegin_15 : decode cX7_shiftBegin 15 = .ok (.isub, 1) := by decide +kernel
theorem dX7_shiftBegin_16 : decode cX7_shiftBegin 16 = .ok (.invokestatic 97, 3) := by decide +kernel
theorem dX7_shiftBegin_19 : decode cX7_shiftBegin 19 = .ok (.ifCond .eq 7, 3) := by decide +kernel
theorem dX7_shiftBegin_22 : decode cX7_shiftBegin 22 = .ok (.iconst 1, 1) := by decide +kernel
theorem dX7_shiftBegin_23 : decode cX7_shiftBegin 23 = .ok (.goto 4, 3) := by decide +kernel
theorem dX7_shiftBegin_26 : decode cX7_shiftBegin 26 = .ok (.iconst 0, 1) := by decide +kernel
theorem dX7_shiftBegin_27 : decode cX7_shiftBegin 27 = .ok (.istore_n 3, 1) := by decide +kernel
theorem dX7_shiftBegin_28 : decode cX7_shiftBegin 28 = .ok (.iload_n 3, 1) := by decide +kernel
theorem dX7_shiftBegin_29 : decode cX7_shiftBegin 29 = .ok (.ifCond .eq 12, 3) := by decide +kernel
theorem dX7_shiftBegin_32 : decode cX7_shiftBegin 32 = .ok (.aload_n 0, 1) := by decide +kernel
theorem dX7_shiftBegin_33 : decode cX7_shiftBegin 33 = .ok (.getfield 60, 3) := by decide +kernel
theorem dX7_shiftBegin_36 : decode cX7_shiftBegin 36 = .ok (.iload_n 2, 1) := by decide +kernel
theorem dX7_shiftBegin_37 : decode cX7_shiftBegin 37 = .ok (.iaload, 1) := by decide +kernel
theorem dX7_shiftBegin_38 : decode cX7_shiftBegin 38 = .ok (.goto 8, 3) := by decide +kernel
theorem dX7_shiftBegin_41 : decode cX7_shiftBegin 41 = .ok (.aload_n 0, 1) := by decide +kernel
theorem dX7_shiftBegin_42 : decode cX7_shiftBegin 42 = .ok (.iconst 1, 1) := by decide +kernel
theorem dX7_shiftBegin_43 : decode cX7_shiftBegin 43 = .ok (.invokevirtual 178, 3) := by decide +kernel
theorem dX7_shiftBegin_46 : decode cX7_shiftBegin 46 = .ok (.ireturn, 1) := by decide +kernel
theorem dX7_shiftEnd_0 : decode cX7_shiftEnd 0 = .ok (.aload_n 0, 1) := by decide +kernel
theorem dX7_shiftEnd_1 : decode cX7_shiftEnd 1 = .ok (.iload_n 1, 1) := by decide +kernel
theorem dX7_shiftEnd_2 : decode cX7_shiftEnd 2 = .ok (.invokevirtual 181, 3) := by decide +kernel
theorem dX7_shiftEnd_5 : decode cX7_shiftEnd 5 = .ok (.ifCond .eq 21, 3) := by decide +kernel
theorem dX7_shiftEnd_8 : decode cX7_shiftEnd 8 = .ok (.iload_n 2, 1) := by decide +kernel
theorem dX7_shiftEnd_9 : decode cX7_shiftEnd 9 = .ok (.iconst 0, 1) := by decide +kernel
theorem dX7_shiftEnd_10 : decode cX7_shiftEnd 10 = .ok (.aload_n 0, 1) := by decide +kernel
theorem dX7_shiftEnd_11 : decode cX7_shiftEnd 11 = .ok (.getfield 125, 3) := by decide +kernel
theorem dX7_shiftEnd_14 : decode cX7_shiftEnd 14 = .ok (.iconst 1, 1) := by decide +kernel
theorem dX7_shiftEnd_15 : decode cX7_shiftEnd 15 = .ok (.isub, 1) := by decide +kernel
theorem dX7_shiftEnd_16 : decode cX7_shiftEnd 16 = .ok (.invokestatic 97, 3) := by decide +kernel
theorem dX7_shiftEnd_19 : decode cX7_shiftEnd 19 = .ok (.ifCond .eq 7, 3) := by decide +kernel
theorem dX7_shiftEnd_22 : decode cX7_shiftEnd 22 = .ok (.iconst 1, 1) := by decide +kernel
theorem dX7_shiftEnd_23 : decode cX7_shiftEnd 23 = .ok (.goto 4, 3) := by decide +kernel
theorem dX7_shiftEnd_26 : decode cX7_shiftEnd 26 = .ok (.iconst 0, 1) := by decide +kernel
theorem dX7_shiftEnd_27 : decode cX7_shiftEnd 27 = .ok (.istore_n 3, 1) := by decide +kernel
theorem dX7_shiftEnd_28 : decode cX7_shiftEnd 28 = .ok (.iload_n 3, 1) := by decide +kernel
theorem dX7_shiftEnd_29 : decode cX7_shiftEnd 29 = .ok (.ifCond .eq 12, 3) := by decide +kernel
theorem dX7_shiftEnd_32 : decode cX7_shiftEnd 32 = .ok (.aload_n 0, 1) := by decide +kernel
theorem dX7_shiftEnd_33 : decode cX7_shiftEnd 33 = .ok (.getfield 63, 3) := by decide +kernel
theorem dX7_shiftEnd_36 : decode cX7_shiftEnd 36 = .ok (.iload_n 2, 1) := by decide +kernel
theorem dX7_shiftEnd_37 : decode cX7_shiftEnd 37 = .ok (.iaload, 1) := by decide +kernel
theorem dX7_shiftEnd_38 : decode cX7_shiftEnd 38 = .ok (.goto 8, 3) := by decide +kernel
theorem dX7_shiftEnd_41 : decode cX7_shiftEnd 41 = .ok (.aload_n 0, 1) := by decide +kernel
theorem dX7_shiftEnd_42 : decode cX7_shiftEnd 42 = .ok (.iconst 1, 1) := by decide +kernel
theorem dX7_shiftEnd_43 : decode cX7_shiftEnd 43 = .ok (.invokevirtual 178, 3) := by decide +kernel
theorem dX7_shiftEnd_46 : decode cX7_shiftEnd 46 = .ok (.ireturn, 1) := by decide +kernel
theorem dX7_repairedShifts_0 : decode cX7_repairedShifts 0 = .ok (.aload_n 0, 1) := by decide +kernel
theorem dX7_repairedShifts_1 : decode cX7_repairedShifts 1 = .ok (.iload_n 1, 1) := by decide +kernel
theorem dX7_repairedShifts_2 : decode cX7_repairedShifts 2 = .ok (.invokevirtual 181, 3) := by decide +kernel
theorem dX7_repairedShifts_5 : decode cX7_repairedShifts 5 = .ok (.ifCond .eq 10, 3) := by decide +kernel
theorem dX7_repairedShifts_8 : decode cX7_repairedShifts 8 = .ok (.aload_n 0, 1) := by decide +kernel
theorem dX7_repairedShifts_9 : decode cX7_repairedShifts 9 = .ok (.getfield 128, 3) := by decide +kernel
theorem dX7_repairedShifts_12 : decode cX7_repairedShifts 12 = .ok (.goto 4, 3) := by decide +kernel
theorem dX7_repairedShifts_15 : decode cX7_repairedShifts 15 = .ok (.iconst 0, 1) := by decide +kernel
theorem dX7_repairedShifts_16 : decode cX7_repairedShifts 16 = .ok (.ireturn, 1) := by decide +kernel
theorem dX7_coverage_0 : decode cX7_coverage 0 = .ok (.aload_n 0, 1) := by decide +kernel
theorem dX7_coverage_1 : decode cX7_coverage 1 = .ok (.iload_n 1, 1) := by decide +kernel
theorem dX7_coverage_2 : decode cX7_coverage 2 = .ok (.invokevirtual 181, 3) := by decide +kernel
theorem dX7_coverage_5 : decode cX7_coverage 5 = .ok (.istore_n 3, 1) := by decide +kernel
theorem dX7_coverage_6 : decode cX7_coverage 6 = .ok (.aload_n 0, 1) := by decide +kernel
theorem dX7_coverage_7 : decode cX7_coverage 7 = .ok (.iload_n 3, 1) := by decide +kernel
theorem dX7_coverage_8 : decode cX7_coverage 8 = .ok (.ifCond .eq 18, 3) := by decide +kernel
theorem dX7_coverage_11 : decode cX7_coverage 11 = .ok (.iload_n 2, 1) := by decide +kernel
theorem dX7_coverage_12 : decode cX7_coverage 12 = .ok (.iconst 0, 1) := by decide +kernel
theorem dX7_coverage_13 : decode cX7_coverage 13 = .ok (.sipush 10079, 3) := by decide +kernel
theorem dX7_coverage_16 : decode cX7_coverage 16 = .ok (.invokestatic 97, 3) := by decide +kernel
theorem dX7_coverage_19 : decode cX7_coverage 19 = .ok (.ifCond .ne 7, 3) := by decide +kernel
theorem dX7_coverage_22 : decode cX7_coverage 22 = .ok (.iconst 2, 1) := by decide +kernel
theorem dX7_coverage_23 : decode cX7_coverage 23 = .ok (.goto 7, 3) := by decide +kernel
theorem dX7_coverage_26 : decode cX7_coverage 26 = .ok (.aload_n 0, 1) := by decide +kernel
theorem dX7_coverage_27 : decode cX7_coverage 27 = .ok (.getfield 90, 3) := by decide +kernel
theorem dX7_coverage_30 : decode cX7_coverage 30 = .ok (.putfield 90, 3) := by decide +kernel
theorem dX7_coverage_33 : decode cX7_coverage 33 = .ok (.aload_n 0, 1) := by decide +kernel
theorem dX7_coverage_34 : decode cX7_coverage 34 = .ok (.getfield 90, 3) := by decide +kernel
theorem dX7_coverage_37 : decode cX7_coverage 37 = .ok (.ifCond .le 7, 3) := by decide +kernel
theorem dX7_coverage_40 : decode cX7_coverage 40 = .ok (.iconst 0, 1) := by decide +kernel
theorem dX7_coverage_41 : decode cX7_coverage 41 = .ok (.goto 9, 3) := by decide +kernel
theorem dX7_coverage_44 : decode cX7_coverage 44 = .ok (.aload_n 0, 1) := by decide +kernel
theorem dX7_coverage_45 : decode cX7_coverage 45 = .ok (.getfield 66, 3) := by decide +kernel
theorem dX7_coverage_48 : decode cX7_coverage 48 = .ok (.iload_n 2, 1) := by decide +kernel
theorem dX7_coverage_49 : decode cX7_coverage 49 = .ok (.iaload, 1) := by decide +kernel
theorem dX7_coverage_50 : decode cX7_coverage 50 = .ok (.ireturn, 1) := by decide +kernel
theorem dX7_overlap_0 : decode cX7_overlap 0 = .ok (.aload_n 0, 1) := by decide +kernel
theorem dX7_overlap_1 : decode cX7_overlap 1 = .ok (.iload_n 1, 1) := by decide +kernel
theorem dX7_overlap_2 : decode cX7_overlap 2 = .ok (.invokevirtual 181, 3) := by decide +kernel
theorem dX7_overlap_5 : decode cX7_overlap 5 = .ok (.ifCond .eq 10, 3) := by decide +kernel
theorem dX7_overlap_8 : decode cX7_overlap 8 = .ok (.aload_n 0, 1) := by decide +kernel
theorem dX7_overlap_9 : decode cX7_overlap 9 = .ok (.getfield 152, 3) := by decide +kernel
theorem dX7_overlap_12 : decode cX7_overlap 12 = .ok (.goto 4, 3) := by decide +kernel
theorem dX7_overlap_15 : decode cX7_overlap 15 = .ok (.iconst 0, 1) := by decide +kernel
theorem dX7_overlap_16 : decode cX7_overlap 16 = .ok (.ireturn, 1) := by decide +kernel
theorem dX7_workedOn_0 : decode cX7_workedOn 0 = .ok (.aload_n 0, 1) := by decide +kernel
theorem dX7_workedOn_1 : decode cX7_workedOn 1 = .ok (.iload_n 1, 1) := by decide +kernel
theorem dX7_workedOn_2 : decode cX7_workedOn 2 = .ok (.invokevirtual 181, 3) := by decide +kernel
theorem dX7_workedOn_5 : decode cX7_workedOn 5 = .ok (.istore_n 3, 1) := by decide +kernel
theorem dX7_workedOn_6 : decode cX7_workedOn 6 = .ok (.aload_n 0, 1) := by decide +kernel
theorem dX7_workedOn_7 : decode cX7_workedOn 7 = .ok (.iload_n 3, 1) := by decide +kernel
theorem dX7_workedOn_8 : decode cX7_workedOn 8 = .ok (.ifCond .eq 17, 3) := by decide +kernel
theorem dX7_workedOn_11 : decode cX7_workedOn 11 = .ok (.iload_n 2, 1) := by decide +kernel
theorem dX7_workedOn_12 : decode cX7_workedOn 12 = .ok (.iconst 0, 1) := by decide +kernel
theorem dX7_workedOn_13 : decode cX7_workedOn 13 = .ok (.bipush 6, 2) := by decide +kernel
theorem dX7_workedOn_15 : decode cX7_workedOn 15 = .ok (.invokestatic 97, 3) := by decide +kernel
theorem dX7_workedOn_18 : decode cX7_workedOn 18 = .ok (.ifCond .ne 7, 3) := by decide +kernel
theorem dX7_workedOn_21 : decode cX7_workedOn 21 = .ok (.iconst 2, 1) := by decide +kernel
theorem dX7_workedOn_22 : decode cX7_workedOn 22 = .ok (.goto 7, 3) := by decide +kernel
theorem dX7_workedOn_25 : decode cX7_workedOn 25 = .ok (.aload_n 0, 1) := by decide +kernel
theorem dX7_workedOn_26 : decode cX7_workedOn 26 = .ok (.getfield 90, 3) := by decide +kernel
theorem dX7_workedOn_29 : decode cX7_workedOn 29 = .ok (.putfield 90, 3) := by decide +kernel
theorem dX7_workedOn_32 : decode cX7_workedOn 32 = .ok (.aload_n 0, 1) := by decide +kernel
theorem dX7_workedOn_33 : decode cX7_workedOn 33 = .ok (.getfield 90, 3) := by decide +kernel
theorem dX7_workedOn_36 : decode cX7_workedOn 36 = .ok (.ifCond .le 7, 3) := by decide +kernel
theorem dX7_workedOn_39 : decode cX7_workedOn 39 = .ok (.iconst 0, 1) := by decide +kernel
theorem dX7_workedOn_40 : decode cX7_workedOn 40 = .ok (.goto 9, 3) := by decide +kernel
theorem dX7_workedOn_43 : decode cX7_workedOn 43 = .ok (.aload_n 0, 1) := by decide +kernel
theorem dX7_workedOn_44 : decode cX7_workedOn 44 = .ok (.getfield 75, 3) := by decide +kernel
theorem dX7_workedOn_47 : decode cX7_workedOn 47 = .ok (.iload_n 2, 1) := by decide +kernel
theorem dX7_workedOn_48 : decode cX7_workedOn 48 = .ok (.iaload, 1) := by decide +kernel
theorem dX7_workedOn_49 : decode cX7_workedOn 49 = .ok (.ireturn, 1) := by decide +kernel
theorem dX7_stretches_0 : decode cX7_stretches 0 = .ok (.aload_n 0, 1) := by decide +kernel
theorem dX7_stretches_1 : decode cX7_stretches 1 = .ok (.iload_n 1, 1) := by decide +kernel
theorem dX7_stretches_2 : decode cX7_stretches 2 = .ok (.invokevirtual 181, 3) := by decide +kernel
theorem dX7_stretches_5 : decode cX7_stretches 5 = .ok (.ifCond .eq 10, 3) := by decide +kernel
theorem dX7_stretches_8 : decode cX7_stretches 8 = .ok (.aload_n 0, 1) := by decide +kernel
theorem dX7_stretches_9 : decode cX7_stretches 9 = .ok (.getfield 155, 3) := by decide +kernel
theorem dX7_stretches_12 : decode cX7_stretches 12 = .ok (.goto 4, 3) := by decide +kernel
theorem dX7_stretches_15 : decode cX7_stretches 15 = .ok (.iconst 0, 1) := by decide +kernel
theorem dX7_stretches_16 : decode cX7_stretches 16 = .ok (.ireturn, 1) := by decide +kernel
theorem dX7_longestStretch_0 : decode cX7_longestStretch 0 = .ok (.aload_n 0, 1) := by decide +kernel
theorem dX7_longestStretch_1 : decode cX7_longestStretch 1 = .ok (.iload_n 1, 1) := by decide +kernel
theorem dX7_longestStretch_2 : decode cX7_longestStretch 2 = .ok (.invokevirtual 181, 3) := by decide +kernel
theorem dX7_longestStretch_5 : decode cX7_longestStretch 5 = .ok (.ifCond .eq 10, 3) := by decide +kernel
theorem dX7_longestStretch_8 : decode cX7_longestStretch 8 = .ok (.aload_n 0, 1) := by decide +kernel
theorem dX7_longestStretch_9 : decode cX7_longestStretch 9 = .ok (.getfield 158, 3) := by decide +kernel
theorem dX7_longestStretch_12 : decode cX7_longestStretch 12 = .ok (.goto 4, 3) := by decide +kernel
theorem dX7_longestStretch_15 : decode cX7_longestStretch 15 = .ok (.iconst 0, 1) := by decide +kernel
theorem dX7_longestStretch_16 : decode cX7_longestStretch 16 = .ok (.ireturn, 1) := by decide +kernel
theorem dX7_category_0 : decode cX7_category 0 = .ok (.aload_n 0, 1) := by decide +kernel
theorem dX7_category_1 : decode cX7_category 1 = .ok (.iload_n 1, 1) := by decide +kernel
theorem dX7_category_2 : decode cX7_category 2 = .ok (.invokevirtual 181, 3) := by decide +kernel
theorem dX7_category_5 : decode cX7_category 5 = .ok (.istore_n 3, 1) := by decide +kernel
theorem dX7_category_6 : decode cX7_category 6 = .ok (.aload_n 0, 1) := by decide +kernel
theorem dX7_category_7 : decode cX7_category 7 = .ok (.iload_n 3, 1) := by decide +kernel
theorem dX7_category_8 : decode cX7_category 8 = .ok (.ifCond .eq 18, 3) := by decide +kernel
theorem dX7_category_11 : decode cX7_category 11 = .ok (.iload_n 2, 1) := by decide +kernel
theorem dX7_category_12 : decode cX7_category 12 = .ok (.iconst 0, 1) := by decide +kernel
theorem dX7_category_13 : decode cX7_category 13 = .ok (.sipush 10079, 3) := by decide +kernel
theorem dX7_category_16 : decode cX7_category 16 = .ok (.invokestatic 97, 3) := by decide +kernel
theorem dX7_category_19 : decode cX7_category 19 = .ok (.ifCond .ne 7, 3) := by decide +kernel
theorem dX7_category_22 : decode cX7_category 22 = .ok (.iconst 2, 1) := by decide +kernel
theorem dX7_category_23 : decode cX7_category 23 = .ok (.goto 7, 3) := by decide +kernel
theorem dX7_category_26 : decode cX7_category 26 = .ok (.aload_n 0, 1) := by decide +kernel
theorem dX7_category_27 : decode cX7_category 27 = .ok (.getfield 90, 3) := by decide +kernel
theorem dX7_category_30 : decode cX7_category 30 = .ok (.putfield 90, 3) := by decide +kernel
theorem dX7_category_33 : decode cX7_category 33 = .ok (.aload_n 0, 1) := by decide +kernel
theorem dX7_category_34 : decode cX7_category 34 = .ok (.getfield 90, 3) := by decide +kernel
theorem dX7_category_37 : decode cX7_category 37 = .ok (.ifCond .le 7, 3) := by decide +kernel
theorem dX7_category_40 : decode cX7_category 40 = .ok (.iconst 0, 1) := by decide +kernel
theorem dX7_category_41 : decode cX7_category 41 = .ok (.goto 9, 3) := by decide +kernel
theorem dX7_category_44 : decode cX7_category 44 = .ok (.aload_n 0, 1) := by decide +kernel
theorem dX7_category_45 : decode cX7_category 45 = .ok (.getfield 72, 3) := by decide +kernel
theorem dX7_category_48 : decode cX7_category 48 = .ok (.iload_n 2, 1) := by decide +kernel
theorem dX7_category_49 : decode cX7_category 49 = .ok (.iaload, 1) := by decide +kernel
theorem dX7_category_50 : decode cX7_category 50 = .ok (.ireturn, 1) := by decide +kernel
theorem dX7_told_0 : decode cX7_told 0 = .ok (.aload_n 0, 1) := by decide +kernel
theorem dX7_told_1 : decode cX7_told 1 = .ok (.iload_n 1, 1) := by decide +kernel
theorem dX7_told_2 : decode cX7_told 2 = .ok (.invokevirtual 181, 3) := by decide +kernel
theorem dX7_told_5 : decode cX7_told 5 = .ok (.istore 5, 2) := by decide +kernel
theorem dX7_told_7 : decode cX7_told 7 = .ok (.aload_n 0, 1) := by decide +kernel
theorem dX7_told_8 : decode cX7_told 8 = .ok (.iload 5, 2) := by decide +kernel
theorem dX7_told_10 : decode cX7_told 10 = .ok (.ifCond .eq 26, 3) := by decide +kernel
theorem dX7_told_13 : decode cX7_told 13 = .ok (.iload_n 2, 1) := by decide +kernel
theorem dX7_told_14 : decode cX7_told 14 = .ok (.iconst 0, 1) := by decide +kernel
theorem dX7_told_15 : decode cX7_told 15 = .ok (.bipush 6, 2) := by decide +kernel
theorem dX7_told_17 : decode cX7_told 17 = .ok (.invokestatic 97, 3) := by decide +kernel
theorem dX7_told_20 : decode cX7_told 20 = .ok (.ifCond .eq 12, 3) := by decide +kernel
theorem dX7_told_23 : decode cX7_told 23 = .ok (.iload_n 3, 1) := by decide +kernel
theorem dX7_told_24 : decode cX7_told 24 = .ok (.iconst 0, 1) := by decide +kernel
theorem dX7_told_25 : decode cX7_told 25 = .ok (.iconst 2, 1) := by decide +kernel
theorem dX7_told_26 : decode cX7_told 26 = .ok (.invokestatic 97, 3) := by decide +kernel
theorem dX7_told_29 : decode cX7_told 29 = .ok (.ifCond .ne 7, 3) := by decide +kernel
theorem dX7_told_32 : decode cX7_told 32 = .ok (.iconst 2, 1) := by decide +kernel
theorem dX7_told_33 : decode cX7_told 33 = .ok (.goto 7, 3) := by decide +kernel
theorem dX7_told_36 : decode cX7_told 36 = .ok (.aload_n 0, 1) := by decide +kernel
theorem dX7_told_37 : decode cX7_told 37 = .ok (.getfield 90, 3) := by decide +kernel
theorem dX7_told_40 : decode cX7_told 40 = .ok (.putfield 90, 3) := by decide +kernel
theorem dX7_told_43 : decode cX7_told 43 = .ok (.aload_n 0, 1) := by decide +kernel
theorem dX7_told_44 : decode cX7_told 44 = .ok (.getfield 90, 3) := by decide +kernel
theorem dX7_told_47 : decode cX7_told 47 = .ok (.ifCond .le 7, 3) := by decide +kernel
theorem dX7_told_50 : decode cX7_told 50 = .ok (.iconst 0, 1) := by decide +kernel
theorem dX7_told_51 : decode cX7_told 51 = .ok (.goto 11, 3) := by decide +kernel
theorem dX7_told_54 : decode cX7_told 54 = .ok (.aload 4, 2) := by decide +kernel
theorem dX7_told_56 : decode cX7_told 56 = .ok (.iconst 3, 1) := by decide +kernel
theorem dX7_told_57 : decode cX7_told 57 = .ok (.iload_n 2, 1) := by decide +kernel
theorem dX7_told_58 : decode cX7_told 58 = .ok (.imul, 1) := by decide +kernel
theorem dX7_told_59 : decode cX7_told 59 = .ok (.iload_n 3, 1) := by decide +kernel
theorem dX7_told_60 : decode cX7_told 60 = .ok (.iadd, 1) := by decide +kernel
theorem dX7_told_61 : decode cX7_told 61 = .ok (.iaload, 1) := by decide +kernel
theorem dX7_told_62 : decode cX7_told 62 = .ok (.ireturn, 1) := by decide +kernel
theorem dX7_minutes_0 : decode cX7_minutes 0 = .ok (.aload_n 0, 1) := by decide +kernel
theorem dX7_minutes_1 : decode cX7_minutes 1 = .ok (.iload_n 1, 1) := by decide +kernel
theorem dX7_minutes_2 : decode cX7_minutes 2 = .ok (.iload_n 2, 1) := by decide +kernel
theorem dX7_minutes_3 : decode cX7_minutes 3 = .ok (.iload_n 3, 1) := by decide +kernel
theorem dX7_minutes_4 : decode cX7_minutes 4 = .ok (.aload_n 0, 1) := by decide +kernel
theorem dX7_minutes_5 : decode cX7_minutes 5 = .ok (.getfield 81, 3) := by decide +kernel
theorem dX7_minutes_8 : decode cX7_minutes 8 = .ok (.invokevirtual 184, 3) := by decide +kernel
theorem dX7_minutes_11 : decode cX7_minutes 11 = .ok (.ireturn, 1) := by decide +kernel
theorem dX7_quarters_0 : decode cX7_quarters 0 = .ok (.aload_n 0, 1) := by decide +kernel
theorem dX7_quarters_1 : decode cX7_quarters 1 = .ok (.iload_n 1, 1) := by decide +kernel
theorem dX7_quarters_2 : decode cX7_quarters 2 = .ok (.iload_n 2, 1) := by decide +kernel
theorem dX7_quarters_3 : decode cX7_quarters 3 = .ok (.iload_n 3, 1) := by decide +kernel
theorem dX7_quarters_4 : decode cX7_quarters 4 = .ok (.aload_n 0, 1) := by decide +kernel
theorem dX7_quarters_5 : decode cX7_quarters 5 = .ok (.getfield 84, 3) := by decide +kernel
theorem dX7_quarters_8 : decode cX7_quarters 8 = .ok (.invokevirtual 184, 3) := by decide +kernel
theorem dX7_quarters_11 : decode cX7_quarters 11 = .ok (.ireturn, 1) := by decide +kernel
theorem dX7_premiumPay_0 : decode cX7_premiumPay 0 = .ok (.aload_n 0, 1) := by decide +kernel
theorem dX7_premiumPay_1 : decode cX7_premiumPay 1 = .ok (.iload_n 1, 1) := by decide +kernel
theorem dX7_premiumPay_2 : decode cX7_premiumPay 2 = .ok (.invokevirtual 181, 3) := by decide +kernel
theorem dX7_premiumPay_5 : decode cX7_premiumPay 5 = .ok (.ifCond .eq 10, 3) := by decide +kernel
theorem dX7_premiumPay_8 : decode cX7_premiumPay 8 = .ok (.aload_n 0, 1) := by decide +kernel
theorem dX7_premiumPay_9 : decode cX7_premiumPay 9 = .ok (.invokevirtual 170, 3) := by decide +kernel
theorem dX7_premiumPay_12 : decode cX7_premiumPay 12 = .ok (.goto 4, 3) := by decide +kernel
theorem dX7_premiumPay_15 : decode cX7_premiumPay 15 = .ok (.iconst 0, 1) := by decide +kernel
theorem dX7_premiumPay_16 : decode cX7_premiumPay 16 = .ok (.ireturn, 1) := by decide +kernel
theorem dX7_pay_0 : decode cX7_pay 0 = .ok (.aload_n 0, 1) := by decide +kernel
theorem dX7_pay_1 : decode cX7_pay 1 = .ok (.aload_n 0, 1) := by decide +kernel
theorem dX7_pay_2 : decode cX7_pay 2 = .ok (.iload_n 1, 1) := by decide +kernel
theorem dX7_pay_3 : decode cX7_pay 3 = .ok (.invokevirtual 102, 3) := by decide +kernel
theorem dX7_pay_6 : decode cX7_pay 6 = .ok (.ifCond .eq 7, 3) := by decide +kernel
theorem dX7_pay_9 : decode cX7_pay 9 = .ok (.iconst 0, 1) := by decide +kernel
theorem dX7_pay_10 : decode cX7_pay 10 = .ok (.goto 4, 3) := by decide +kernel
theorem dX7_pay_13 : decode cX7_pay 13 = .ok (.iconst 1, 1) := by decide +kernel
theorem dX7_pay_14 : decode cX7_pay 14 = .ok (.putfield 90, 3) := by decide +kernel
theorem dX7_pay_17 : decode cX7_pay 17 = .ok (.aload_n 0, 1) := by decide +kernel
theorem dX7_pay_18 : decode cX7_pay 18 = .ok (.getfield 90, 3) := by decide +kernel
theorem dX7_pay_21 : decode cX7_pay 21 = .ok (.ifCond .le 7, 3) := by decide +kernel
theorem dX7_pay_24 : decode cX7_pay 24 = .ok (.iconst 0, 1) := by decide +kernel
theorem dX7_pay_25 : decode cX7_pay 25 = .ok (.goto 8, 3) := by decide +kernel
theorem dX7_pay_28 : decode cX7_pay 28 = .ok (.aload_n 0, 1) := by decide +kernel
theorem dX7_pay_29 : decode cX7_pay 29 = .ok (.iload_n 1, 1) := by decide +kernel
theorem dX7_pay_30 : decode cX7_pay 30 = .ok (.invokevirtual 174, 3) := by decide +kernel
theorem dX7_pay_33 : decode cX7_pay 33 = .ok (.ireturn, 1) := by decide +kernel
end
section
/-! One world for everything: cells by number ('ids'), their addresses by o; a memory M (ints) and G (longs). -/
abbrev Mem : Type := Nat → Nat → Int32
abbrev Mel : Type := Nat → Nat → Int64
def mst (M : Mem) (k j : Nat) (v : Int32) : Mem := fun q => if q = k then upd (M k) j v else M q
def mstL (G : Mel) (k j : Nat) (v : Int64) : Mel := fun q => if q = k then vp_updL (G k) j v else G q
theorem mst_self (M : Mem) (k j : Nat) (v : Int32) : mst M k j v k = upd (M k) j v := by simp [mst]
theorem mst_ne (M : Mem) {k q : Nat} (j : Nat) (v : Int32) (h : q ≠ k) : mst M k j v q = M q := by simp [mst, h]
theorem mstL_self (G : Mel) (k j : Nat) (v : Int64) : mstL G k j v k = vp_updL (G k) j v := by simp [mstL]
theorem mstL_ne (G : Mel) {k q : Nat} (j : Nat) (v : Int64) (h : q ≠ k) : mstL G k j v q = G q := by simp [mstL, h]
/-- width of the table k; the number of its cells (they are the cell k + 1) -/
def tw (k : Nat) : Int32 := if k = 31 then 4 else if k = 36 then 3 else if k = 39 then 3 else 2
def tl (k : Nat) : Nat := if k = 31 then 24 else if k = 34 then 320 else if k = 36 then 564 else if k = 39 then 480 else if k = 41 then 160 else if k = 44 then 80 else if (k - 46) % 7 = 1 then 80 else 40
def obT (ac : Nat → ClassId) (o : Nat → Nat) (k : Nat) (f : Nat → Int32) : va_E := .inr (4, [.int (tw k), .ref (o (k + 1)), .int (f 2)])
def obC (ac : Nat → ClassId) (k : Nat) (f : Nat → Int32) : va_E := .inl (ac 0, tl k, .inl f)
def obA (ac : Nat → ClassId) (n : Nat) (f : Nat → Int32) : va_E := .inl (ac 0, n, .inl f)
def obE (ac : Nat → ClassId) (o : Nat → Nat) (k : Nat) (f : Nat → Int32) (g : Nat → Int64) : va_E := .inr (0, [.int (f 0), .int (f 1), .long (g 2), .ref (o (k + 1)), .ref (o (k + 3)), .ref (o (k + 5))])
def obM (ac : Nat → ClassId) (o : Nat → Nat) (f : Nat → Int32) : va_E := .inr (7, [.int (f 0), .int (f 1), .ref (o 2), .ref (o 3), .ref (o 4), .ref (o 5), .ref (o 6), .ref (o 7), .ref (o 8), .ref (o 9), .ref (o 10), .ref (o 11), .ref (o 12), .ref (o 13), .int (f 14), .ref (o 14), .ref (o 15), .ref (o 16), .ref (o 17), .int (f 19), .int (f 20), .ref (o 18), .ref (o 19), .ref (o 20), .ref (o 21), .ref (o 22), .ref (o 23), .ref (o 24), .ref (o 25), .ref (o 26), .ref (o 27), .int (f 31), .int (f 32), .int (f 33)])
def obX (ac : Nat → ClassId) (o : Nat → Nat) (hn : Nat) : va_E := .inr (6, [.ref (o 29), .int (nI hn), .ref (o 30), .ref (o 33), .ref (o 38), .ref (o 43)])
def obS (ac : Nat → ClassId) (o : Nat → Nat) (hn : Nat) : va_E := .inl (ac 3, 6, .inr (.inr (.inr (.inr (fun j => if j < hn then some (o (46 + 7 * j)) else none)))))
/-- the cell of the number k -/
def ob (ac : Nat → ClassId) (o : Nat → Nat) (hn : Nat) (k : Nat) (f : Nat → Int32) (g : Nat → Int64) : va_E :=
  if k = 0 then .inl (ac 1, 1, .inr (.inl g)) else
  if k = 1 then obM ac o f else
  if k = 4 then .inl (ac 1, 6, .inr (.inl g)) else
  if k = 7 then .inl (ac 2, 246, .inl f) else
  if k = 2 then obA ac 6 f else if k = 3 then obA ac 6 f else if k = 5 then obA ac 6 f else if k = 6 then obA ac 246 f else
  if k = 8 then obA ac 6 f else if k = 9 then obA ac 120 f else if k = 10 then obA ac 120 f else if k = 11 then obA ac 6 f else
  if k = 12 then obA ac 120 f else if k = 13 then obA ac 120 f else if k = 14 then obA ac 6 f else if k = 15 then obA ac 6 f else
  if k = 16 then obA ac 6 f else if k = 17 then obA ac 6 f else if k = 18 then obA ac 41 f else if k = 19 then obA ac 41 f else
  if k = 20 then obA ac 10081 f else if k = 21 then obA ac 10081 f else if k = 22 then obA ac 10080 f else if k = 23 then obA ac 7 f else
  if k = 24 then obA ac 7 f else if k = 25 then obA ac 21 f else if k = 26 then obA ac 21 f else if k = 27 then obA ac 3 f else
  if k = 28 then obX ac o hn else if k = 29 then obS ac o hn else
  if k = 30 then .inr (2, [.ref (o 31)]) else if k = 31 then obT ac o 31 f else if k = 32 then obC ac 31 f else
  if k = 33 then .inr (1, [.ref (o 38), .ref (o 34), .ref (o 36)]) else if k = 34 then obT ac o 34 f else if k = 35 then obC ac 34 f else
  if k = 36 then obT ac o 36 f else if k = 37 then obC ac 36 f else
  if k = 38 then .inr (5, [.ref (o 43), .ref (o 39), .ref (o 41), .int (f 3)]) else if k = 39 then obT ac o 39 f else if k = 40 then obC ac 39 f else
  if k = 41 then obT ac o 41 f else if k = 42 then obC ac 41 f else
  if k = 43 then .inr (3, [.ref (o 44), .int (f 1)]) else if k = 44 then obT ac o 44 f else if k = 45 then obC ac 44 f else
  if (k - 46) % 7 = 0 then obE ac o k f g else
  if (k - 46) % 7 = 1 ∨ (k - 46) % 7 = 3 ∨ (k - 46) % 7 = 5 then obT ac o k f else obC ac (k - 1) f
/-- the number t is a table's -/
def isT (t : Nat) : Prop := t = 31 ∨ t = 34 ∨ t = 36 ∨ t = 39 ∨ t = 41 ∨ t = 44 ∨ (46 < t ∧ ((t - 46) % 7 = 1 ∨ (t - 46) % 7 = 3 ∨ (t - 46) % 7 = 5))
def tb (hn t : Nat) : Prop := isT t ∧ t + 1 < 46 + 7 * hn
def em (hn e : Nat) : Prop := 46 ≤ e ∧ (e - 46) % 7 = 0 ∧ e < 46 + 7 * hn
theorem tb_31 (hn : Nat) : tb hn 31 := ⟨Or.inl rfl, by omega⟩
theorem tb_34 (hn : Nat) : tb hn 34 := ⟨Or.inr (Or.inl rfl), by omega⟩
theorem tb_36 (hn : Nat) : tb hn 36 := ⟨Or.inr (Or.inr (Or.inl rfl)), by omega⟩
theorem tb_39 (hn : Nat) : tb hn 39 := ⟨Or.inr (Or.inr (Or.inr (Or.inl rfl))), by omega⟩
theorem tb_41 (hn : Nat) : tb hn 41 := ⟨Or.inr (Or.inr (Or.inr (Or.inr (Or.inl rfl)))), by omega⟩
theorem tb_44 (hn : Nat) : tb hn 44 := ⟨Or.inr (Or.inr (Or.inr (Or.inr (Or.inr (Or.inl rfl))))), by omega⟩
theorem tb_e1 {hn e : Nat} (h : em hn e) : tb hn (e + 1) := by
  obtain ⟨h1, h2, h3⟩ := h
  refine ⟨Or.inr (Or.inr (Or.inr (Or.inr (Or.inr (Or.inr ⟨by omega, Or.inl (by omega)⟩))))), by omega⟩
theorem tb_e3 {hn e : Nat} (h : em hn e) : tb hn (e + 3) := by
  obtain ⟨h1, h2, h3⟩ := h
  refine ⟨Or.inr (Or.inr (Or.inr (Or.inr (Or.inr (Or.inr ⟨by omega, Or.inr (Or.inl (by omega))⟩))))), by omega⟩
theorem tb_e5 {hn e : Nat} (h : em hn e) : tb hn (e + 5) := by
  obtain ⟨h1, h2, h3⟩ := h
  refine ⟨Or.inr (Or.inr (Or.inr (Or.inr (Or.inr (Or.inr ⟨by omega, Or.inr (Or.inr (by omega))⟩))))), by omega⟩
theorem em_i {hn i : Nat} (h : i < hn) : em hn (46 + 7 * i) := ⟨by omega, by omega, by omega⟩
theorem ob_big {ac : Nat → ClassId} {o : Nat → Nat} {hn k : Nat} (f : Nat → Int32) (g : Nat → Int64) (h : 46 ≤ k) : ob ac o hn k f g = if (k - 46) % 7 = 0 then obE ac o k f g else if (k - 46) % 7 = 1 ∨ (k - 46) % 7 = 3 ∨ (k - 46) % 7 = 5 then obT ac o k f else obC ac (k - 1) f := by
  have n : ∀ j, j < 46 → ¬ k = j := fun j hj => by omega
  simp only [ob, n 0 (by omega), n 1 (by omega), n 2 (by omega), n 3 (by omega), n 4 (by omega), n 5 (by omega), n 6 (by omega), n 7 (by omega), n 8 (by omega), n 9 (by omega), n 10 (by omega), n 11 (by omega), n 12 (by omega), n 13 (by omega), n 14 (by omega), n 15 (by omega), n 16 (by omega), n 17 (by omega), n 18 (by omega), n 19 (by omega), n 20 (by omega), n 21 (by omega), n 22 (by omega), n 23 (by omega), n 24 (by omega), n 25 (by omega), n 26 (by omega), n 27 (by omega), n 28 (by omega), n 29 (by omega), n 30 (by omega), n 31 (by omega), n 32 (by omega), n 33 (by omega), n 34 (by omega), n 35 (by omega), n 36 (by omega), n 37 (by omega), n 38 (by omega), n 39 (by omega), n 40 (by omega), n 41 (by omega), n 42 (by omega), n 43 (by omega), n 44 (by omega), n 45 (by omega), if_false]
theorem ob_T {ac : Nat → ClassId} {o : Nat → Nat} {hn t : Nat} (h : isT t) (f : Nat → Int32) (g : Nat → Int64) : ob ac o hn t f g = .inr (4, [.int (tw t), .ref (o (t + 1)), .int (f 2)]) := by
  rcases h with rfl | rfl | rfl | rfl | rfl | rfl | ⟨h1, h2⟩
  · rfl
  · rfl
  · rfl
  · rfl
  · rfl
  · rfl
  · rw [ob_big f g (by omega), if_neg (by omega), if_pos h2]; rfl
theorem ob_C {ac : Nat → ClassId} {o : Nat → Nat} {hn t : Nat} (h : isT t) (f : Nat → Int32) (g : Nat → Int64) : ob ac o hn (t + 1) f g = .inl (ac 0, tl t, .inl f) := by
  rcases h with rfl | rfl | rfl | rfl | rfl | rfl | ⟨h1, h2⟩
  · rfl
  · rfl
  · rfl
  · rfl
  · rfl
  · rfl
  · rw [ob_big f g (by omega), if_neg (by omega), if_neg (by omega)]; rfl
theorem ob_E {ac : Nat → ClassId} {o : Nat → Nat} {hn e : Nat} (h : em hn e) (f : Nat → Int32) (g : Nat → Int64) : ob ac o hn e f g = .inr (0, [.int (f 0), .int (f 1), .long (g 2), .ref (o (e + 1)), .ref (o (e + 3)), .ref (o (e + 5))]) := by
  obtain ⟨h1, h2, h3⟩ := h
  rw [ob_big f g h1, if_pos h2]; rfl
/-- the world -/
def Wd (ac : Nat → ClassId) (o : Nat → Nat) (hn : Nat) (M : Mem) (G : Mel) : va_W := (List.range (46 + 7 * hn)).map (fun k => (o k, ob ac o hn k (M k) (G k)))
theorem wd_at {ac : Nat → ClassId} {o : Nat → Nat} {hn : Nat} {M : Mem} {G : Mel} {k : Nat} {e : va_E} (h : k < 46 + 7 * hn) (he : ob ac o hn k (M k) (G k) = e) : (Wd ac o hn M G)[k]? = some (o k, e) := by
  subst he
  simp [Wd, h]
theorem wd_len {ac : Nat → ClassId} {o : Nat → Nat} {hn : Nat} {M : Mem} {G : Mel} : (Wd ac o hn M G).length = 46 + 7 * hn := by simp [Wd]
theorem wd_set {ac : Nat → ClassId} {o : Nat → Nat} {hn : Nat} {M M' : Mem} {G G' : Mel} {k : Nat} {e : va_E} (he : ob ac o hn k (M' k) (G' k) = e) (hM : ∀ q, q ≠ k → M' q = M q) (hG : ∀ q, q ≠ k → G' q = G q) : (Wd ac o hn M G).set k (o k, e) = Wd ac o hn M' G' := by
  subst he
  apply List.ext_getElem?
  intro i
  by_cases hik : k = i
  · subst hik
    by_cases hl : k < 46 + 7 * hn
    · rw [List.getElem?_set_self (by rw [wd_len]; exact hl), wd_at hl rfl]
    · rw [List.getElem?_eq_none (by rw [List.length_set, wd_len]; omega), List.getElem?_eq_none (by rw [wd_len]; omega)]
  · rw [List.getElem?_set_ne hik]
    by_cases hl : i < 46 + 7 * hn
    · rw [wd_at hl rfl, wd_at hl rfl, hM i (Ne.symm hik), hG i (Ne.symm hik)]
    · rw [List.getElem?_eq_none (by rw [wd_len]; omega), List.getElem?_eq_none (by rw [wd_len]; omega)]
abbrev Lx : Type := Launch × (Nat → ClassId) × (Nat → Nat → Nat) × (Nat → ClassId)
abbrev Cx : Type := Lx × Program × Env × Room × State × MethodId × Array Value × List Frame × Method × Code × (State → Prop) × (Nat → Prop)
abbrev tysL (ac : Nat → ClassId) : List (ClassId × FieldType) := [(ac 0, .int), (ac 1, .long), (ac 2, .boolean), (ac 3, .object "Timesheets$Employee")]
/-- the cells of the world lie in H, apart; nothing else has changed since H0 -/
def HW (dC : Nat → ClassId) (dI : Nat → Nat → Nat) (A : Nat → Prop) (w : va_W) (H0 H : Heap) (locs : List Loc) : Prop := va_P (dC, dI) vwCl w H ∧ va_D A w ∧ va_S A H0 H locs
/-- from the frame at pc, with locals lo and operands st, over the memory M, G: the rest of the run -/
def WM (X : Cx) (o : Nat → Nat) (hn : Nat) (M : Mem) (G : Mel) (k n pc nL : Nat) (lo : List (Nat × Value)) (st : List Value) : Prop :=
  match X with
  | ((l, dC, dI, ac), p, e, R, s, m, args, below, meth, c, Q, A) => ∀ (H : Heap) (locs : List Loc) (ls : Array Slot), HW dC dI A (Wd ac o hn M G) s.heap H locs → lv_has ls nL lo → W p l e R s m args below meth c H locs k n Q (F0 m pc ls st)
/-- what the tables and the heap say beside the good words -/
def xtra : Cond → Bool
  | .declares _ => true
  | .castable .. => true
  | .fieldLinkNest .. => true
  | .methodLinkNest .. => true
  | _ => false
abbrev eIAE : String := "java/lang/IllegalArgumentException"
abbrev eISE : String := "java/lang/IllegalStateException"
abbrev eIOB : String := "java/lang/IndexOutOfBoundsException"
abbrev eNSE : String := "java/util/NoSuchElementException"
def strL : List (Nat × String) := [(202, "a value is out of range"), (52, "there are 6 employees already"), (197, "there is no such employee"), (205, "there are as many as there may be already"), (83, "there is a punch at this time already"), (99, "there is no punch at this time"), (207, "there is nothing with this number"), (129, "the week has no punch and no entry")]
def ncL : List (String × String) := [(eIAE, eISE), (eIAE, eIOB), (eIAE, eNSE), (eISE, eIAE), (eISE, eIOB), (eISE, eNSE), (eIOB, eIAE), (eIOB, eISE), (eIOB, eNSE), (eNSE, eIAE), (eNSE, eISE), (eNSE, eIOB)]
def MF (A : Nat → Prop) (U : State) (H : Heap) : Prop :=
  (∀ w ∈ lw_tbl, xtra w = true → w.before #[] U = true) ∧ (∀ q ∈ strL, ∃ a : Nat, vk_R RX6 q.1 q.2 a U) ∧ (∀ q ∈ ncL, va_Nc q.1 q.2 U) ∧ vx_Zq Bundle.tN "UNASSIGNED_STACK" Bundle.steD A U H ∧ vx_Zq Bundle.tN "SUPPRESSED_SENTINEL" Bundle.listD A U H
theorem xtra_warm {w : Cond} (hx : xtra w = true) {s U : State} (hW : s.WarmedH U.vm) (h : w.before #[] s = true) : w.before #[] U = true := by
  have hvm := hW.alike
  have tr : ∀ {c : Cond}, c.onTables = true → c.before #[] (s.setVm U.vm) = true → c.before #[] U = true := by
    intro c hc h
    have e := Cond.onTables_vm (A := #[]) (A' := #[]) (U := s) (U' := U) U.vm c hc
    have hU : U.setVm U.vm = U := rfl
    rw [hU] at e
    rw [← e]
    exact h
  cases w with
  | declares x => exact tr rfl (by rw [Cond.declares_setVm hvm]; exact h)
  | castable a b => exact tr rfl (by rw [Cond.castable_setVm hvm]; exact h)
  | fieldLinkNest a i b n d k => exact va_Nw.warmF hW h
  | methodLinkNest a i x k => exact va_Nw.warmM hW h
  | _ => simp [xtra] at hx
theorem xtra_same {w : Cond} (hx : xtra w = true) {s U : State} (hv : s.vm = U.vm) (h : w.before #[] s = true) : w.before #[] U = true := by
  cases w with
  | declares x => exact va_tabs rfl hv h
  | castable a b => exact va_tabs rfl hv h
  | fieldLinkNest a i b n d k => exact va_tabs rfl hv h
  | methodLinkNest a i x k => exact va_tabs rfl hv h
  | _ => simp [xtra] at hx
theorem xtra_use {w : Cond} (hx : xtra w = true) {s : State} {args : Array Value} (h : w.before #[] s = true) : w.before args s = true := by
  cases w with
  | declares x => exact va_tabs rfl rfl h
  | castable a b => exact va_tabs rfl rfl h
  | fieldLinkNest a i b n d k => exact va_tabs rfl rfl h
  | methodLinkNest a i x k => exact va_tabs rfl rfl h
  | _ => simp [xtra] at hx
theorem MF.warm {A B : Nat → Prop} {s U : State} {H H1 : Heap} (h : MF A s H) (hW : s.WarmedH U.vm) (hAB : ∀ q, B q → A q) (hq : ∀ q : Nat, q < H.size → ¬ A q → H1[q]? = H[q]?) : MF B U H1 := by
  obtain ⟨h1, h2, h3, h4, h5⟩ := h
  refine ⟨fun w hw hx => xtra_warm hx hW (h1 w hw hx), fun q hq => ?_, fun q hq => (h3 q hq).moved hW.alike, ((h4.kept hq).narrow hAB).moved hW.alike, ((h5.kept hq).narrow hAB).moved hW.alike⟩
  obtain ⟨a, ha⟩ := h2 q hq
  exact ⟨a, ha.warm hW⟩
theorem MF.same {A : Nat → Prop} {s U : State} {H : Heap} (h : MF A s H) (hv : s.vm = U.vm) : MF A U H := by
  obtain ⟨h1, h2, h3, h4, h5⟩ := h
  refine ⟨fun w hw hx => xtra_same hx hv (h1 w hw hx), fun q hq => ?_, fun q hq => (h3 q hq).moved (by rw [hv]; exact Vm.Alike.refl U.vm), h4.moved (by rw [hv]; exact Vm.Alike.refl U.vm), h5.moved (by rw [hv]; exact Vm.Alike.refl U.vm)⟩
  obtain ⟨a, ha⟩ := h2 q hq
  exact ⟨a, ha.same hv.symm⟩
/-- what is fixed in a method's body -/
def CxOK (X : Cx) (own : String) (cc : ByteArray) (nL fr lc mc ms : Nat) (rt : Option FieldType) : Prop :=
  match X with
  | ((l, dC, dI, ac), p, _, R, s, m, args, _, meth, c, _, A) => R = { frames := fr, cells := mc, slots := ms, locals := lc } ∧ p.tables.exec = Jvm.exec ∧ c.code = cc ∧ c.maxLocals = nL ∧ s.vm.findClass own = some m.cls ∧ (∀ w ∈ BG, w.before args s = true) ∧ va_K (dC, dI) vwCl (tysL ac) s ∧ (∀ q : Nat, s.heap.size ≤ q → A q) ∧ MF A s s.heap ∧ meth.sig.returnType = rt ∧ meth.locks = false ∧ l.stackTraces = false
section Rows
variable {X : Cx} {own : String} {cc : ByteArray} {nL fr lc mc ms : Nat} {rt : Option FieldType} {o : Nat → Nat} {hn : Nat} {M : Mem} {G : Mel} {a b pc : Nat} {lo : List (Nat × Value)} {st : List Value}
theorem q_iconst (hX : CxOK X own cc nL fr lc mc ms rt) {n : Int} (v : Int32) (hv : Int32.ofInt n = v) (d : decode cc pc = .ok (.iconst n, 1)) (k : WM X o hn M G a b (pc + 1) nL lo (.int v :: st)) : WM X o hn M G a b pc nL lo st := by
  obtain ⟨⟨l, dC, dI, ac⟩, p, e, R, s, m, args, below, meth, c, Q, A⟩ := X
  obtain ⟨hR, hx, hb, hml, hown, hts, hK, hA, hMF, hrt, hlk, htr⟩ := hX
  intro H locs ls hw hl
  exact lv_iconst hx hb d hv (k H locs ls hw hl)
theorem q_bipush (hX : CxOK X own cc nL fr lc mc ms rt) {n : Int} (v : Int32) (hv : (Int8.ofInt n).toInt32 = v) (d : decode cc pc = .ok (.bipush n, 2)) (k : WM X o hn M G a b (pc + 2) nL lo (.int v :: st)) : WM X o hn M G a b pc nL lo st := by
  obtain ⟨⟨l, dC, dI, ac⟩, p, e, R, s, m, args, below, meth, c, Q, A⟩ := X
  obtain ⟨hR, hx, hb, hml, hown, hts, hK, hA, hMF, hrt, hlk, htr⟩ := hX
  intro H locs ls hw hl
  exact lv_bipush hx hb d hv (k H locs ls hw hl)
theorem q_sipush (hX : CxOK X own cc nL fr lc mc ms rt) {n : Int} (v : Int32) (hv : (Int16.ofInt n).toInt32 = v) (d : decode cc pc = .ok (.sipush n, 3)) (k : WM X o hn M G a b (pc + 3) nL lo (.int v :: st)) : WM X o hn M G a b pc nL lo st := by
  obtain ⟨⟨l, dC, dI, ac⟩, p, e, R, s, m, args, below, meth, c, Q, A⟩ := X
  obtain ⟨hR, hx, hb, hml, hown, hts, hK, hA, hMF, hrt, hlk, htr⟩ := hX
  intro H locs ls hw hl
  exact lv_sipush hx hb d hv (k H locs ls hw hl)
theorem q_ldc (hX : CxOK X own cc nL fr lc mc ms rt) {i : Nat} {v : Int32} (hc : Cond.constant own i v ∈ BG) (d : decode cc pc = .ok (.ldc i, 2)) (k : WM X o hn M G a b (pc + 2) nL lo (.int v :: st)) : WM X o hn M G a b pc nL lo st := by
  obtain ⟨⟨l, dC, dI, ac⟩, p, e, R, s, m, args, below, meth, c, Q, A⟩ := X
  obtain ⟨hR, hx, hb, hml, hown, hts, hK, hA, hMF, hrt, hlk, htr⟩ := hX
  intro H locs ls hw hl
  exact lv_ldc hx hb hown (hts _ hc) d (k H locs ls hw hl)
theorem q_iload_n (hX : CxOK X own cc nL fr lc mc ms rt) {q : Fin 4} {i : Nat} {x : Int32} (j : Nat) (hi : (q : Nat) = i) (hj : lo[j]? = some (i, .int x)) (d : decode cc pc = .ok (.iload_n q, 1)) (k : WM X o hn M G a b (pc + 1) nL lo (.int x :: st)) : WM X o hn M G a b pc nL lo st := by
  obtain ⟨⟨l, dC, dI, ac⟩, p, e, R, s, m, args, below, meth, c, Q, A⟩ := X
  obtain ⟨hR, hx, hb, hml, hown, hts, hK, hA, hMF, hrt, hlk, htr⟩ := hX
  intro H locs ls hw hl
  exact lv_iload_n hx hb d hi (lv_at hl j hj) (k H locs ls hw hl)
theorem q_iload (hX : CxOK X own cc nL fr lc mc ms rt) {i : Nat} {x : Int32} (j : Nat) (hj : lo[j]? = some (i, .int x)) (d : decode cc pc = .ok (.iload i, 2)) (k : WM X o hn M G a b (pc + 2) nL lo (.int x :: st)) : WM X o hn M G a b pc nL lo st := by
  obtain ⟨⟨l, dC, dI, ac⟩, p, e, R, s, m, args, below, meth, c, Q, A⟩ := X
  obtain ⟨hR, hx, hb, hml, hown, hts, hK, hA, hMF, hrt, hlk, htr⟩ := hX
  intro H locs ls hw hl
  exact lv_iload hx hb d (lv_at hl j hj) (k H locs ls hw hl)
theorem q_aload_n (hX : CxOK X own cc nL fr lc mc ms rt) {q : Fin 4} {i x : Nat} (j : Nat) (hi : (q : Nat) = i) (hj : lo[j]? = some (i, .ref x)) (d : decode cc pc = .ok (.aload_n q, 1)) (k : WM X o hn M G a b (pc + 1) nL lo (.ref x :: st)) : WM X o hn M G a b pc nL lo st := by
  obtain ⟨⟨l, dC, dI, ac⟩, p, e, R, s, m, args, below, meth, c, Q, A⟩ := X
  obtain ⟨hR, hx, hb, hml, hown, hts, hK, hA, hMF, hrt, hlk, htr⟩ := hX
  intro H locs ls hw hl
  exact lv_aload_n hx hb d hi (lv_at hl j hj) (k H locs ls hw hl)
theorem q_aload (hX : CxOK X own cc nL fr lc mc ms rt) {i x : Nat} (j : Nat) (hj : lo[j]? = some (i, .ref x)) (d : decode cc pc = .ok (.aload i, 2)) (k : WM X o hn M G a b (pc + 2) nL lo (.ref x :: st)) : WM X o hn M G a b pc nL lo st := by
  obtain ⟨⟨l, dC, dI, ac⟩, p, e, R, s, m, args, below, meth, c, Q, A⟩ := X
  obtain ⟨hR, hx, hb, hml, hown, hts, hK, hA, hMF, hrt, hlk, htr⟩ := hX
  intro H locs ls hw hl
  exact lv_aload hx hb d (lv_at hl j hj) (k H locs ls hw hl)
theorem q_istore_n (hX : CxOK X own cc nL fr lc mc ms rt) {q : Fin 4} {i : Nat} {x : Int32} {lo' : List (Nat × Value)} (ks : List Nat) (hi : (q : Nat) = i) (hn' : i < nL) (hl' : lv_pick ((i, Value.int x) :: lo.filter (fun q => !(q.1 == i) && !(q.1 + 1 == i && q.2.category == 2))) ks = lo') (d : decode cc pc = .ok (.istore_n q, 1)) (k : WM X o hn M G a b (pc + 1) nL lo' st) : WM X o hn M G a b pc nL lo (.int x :: st) := by
  obtain ⟨⟨l, dC, dI, ac⟩, p, e, R, s, m, args, below, meth, c, Q, A⟩ := X
  obtain ⟨hR, hx, hb, hml, hown, hts, hK, hA, hMF, hrt, hlk, htr⟩ := hX
  intro H locs ls hw hl
  exact lv_istore_n hx hb d hi hl hn' rfl (fun ls2 hl2 => k H locs ls2 hw (lv_sub hl2 ks hl'))
theorem q_istore (hX : CxOK X own cc nL fr lc mc ms rt) {i : Nat} {x : Int32} {lo' : List (Nat × Value)} (ks : List Nat) (hn' : i < nL) (hl' : lv_pick ((i, Value.int x) :: lo.filter (fun q => !(q.1 == i) && !(q.1 + 1 == i && q.2.category == 2))) ks = lo') (d : decode cc pc = .ok (.istore i, 2)) (k : WM X o hn M G a b (pc + 2) nL lo' st) : WM X o hn M G a b pc nL lo (.int x :: st) := by
  obtain ⟨⟨l, dC, dI, ac⟩, p, e, R, s, m, args, below, meth, c, Q, A⟩ := X
  obtain ⟨hR, hx, hb, hml, hown, hts, hK, hA, hMF, hrt, hlk, htr⟩ := hX
  intro H locs ls hw hl
  exact lv_istore hx hb d hl hn' rfl (fun ls2 hl2 => k H locs ls2 hw (lv_sub hl2 ks hl'))
theorem q_astore_n (hX : CxOK X own cc nL fr lc mc ms rt) {q : Fin 4} {i x : Nat} {lo' : List (Nat × Value)} (ks : List Nat) (hi : (q : Nat) = i) (hn' : i < nL) (hl' : lv_pick ((i, Value.ref x) :: lo.filter (fun q => !(q.1 == i) && !(q.1 + 1 == i && q.2.category == 2))) ks = lo') (d : decode cc pc = .ok (.astore_n q, 1)) (k : WM X o hn M G a b (pc + 1) nL lo' st) : WM X o hn M G a b pc nL lo (.ref x :: st) := by
  obtain ⟨⟨l, dC, dI, ac⟩, p, e, R, s, m, args, below, meth, c, Q, A⟩ := X
  obtain ⟨hR, hx, hb, hml, hown, hts, hK, hA, hMF, hrt, hlk, htr⟩ := hX
  intro H locs ls hw hl
  exact lv_astore_n hx hb d hi hl hn' rfl (fun ls2 hl2 => k H locs ls2 hw (lv_sub hl2 ks hl'))
theorem q_iinc (hX : CxOK X own cc nL fr lc mc ms rt) {i : Nat} {n : Int} {x : Int32} {lo' : List (Nat × Value)} (j : Nat) (v : Int32) (ks : List Nat) (hj : lo[j]? = some (i, .int x)) (hv : x + Int32.ofInt n = v) (hn' : i < nL) (hl' : lv_pick ((i, Value.int v) :: lo.filter (fun q => !(q.1 == i) && !(q.1 + 1 == i && q.2.category == 2))) ks = lo') (d : decode cc pc = .ok (.iinc i n, 3)) (k : WM X o hn M G a b (pc + 3) nL lo' st) : WM X o hn M G a b pc nL lo st := by
  obtain ⟨⟨l, dC, dI, ac⟩, p, e, R, s, m, args, below, meth, c, Q, A⟩ := X
  obtain ⟨hR, hx, hb, hml, hown, hts, hK, hA, hMF, hrt, hlk, htr⟩ := hX
  intro H locs ls hw hl
  exact lv_iinc hx hb d hl hj hv hn' rfl (fun ls2 hl2 => k H locs ls2 hw (lv_sub hl2 ks hl'))
theorem q_iadd (hX : CxOK X own cc nL fr lc mc ms rt) {x y : Int32} (d : decode cc pc = .ok (.iadd, 1)) (k : WM X o hn M G a b (pc + 1) nL lo (.int (x + y) :: st)) : WM X o hn M G a b pc nL lo (.int y :: .int x :: st) := by
  obtain ⟨⟨l, dC, dI, ac⟩, p, e, R, s, m, args, below, meth, c, Q, A⟩ := X
  obtain ⟨hR, hx, hb, hml, hown, hts, hK, hA, hMF, hrt, hlk, htr⟩ := hX
  intro H locs ls hw hl
  exact lv_iadd hx hb d (k H locs ls hw hl)
theorem q_isub (hX : CxOK X own cc nL fr lc mc ms rt) {x y : Int32} (d : decode cc pc = .ok (.isub, 1)) (k : WM X o hn M G a b (pc + 1) nL lo (.int (x - y) :: st)) : WM X o hn M G a b pc nL lo (.int y :: .int x :: st) := by
  obtain ⟨⟨l, dC, dI, ac⟩, p, e, R, s, m, args, below, meth, c, Q, A⟩ := X
  obtain ⟨hR, hx, hb, hml, hown, hts, hK, hA, hMF, hrt, hlk, htr⟩ := hX
  intro H locs ls hw hl
  exact lv_isub hx hb d (k H locs ls hw hl)
theorem q_imul (hX : CxOK X own cc nL fr lc mc ms rt) {x y : Int32} (d : decode cc pc = .ok (.imul, 1)) (k : WM X o hn M G a b (pc + 1) nL lo (.int (x * y) :: st)) : WM X o hn M G a b pc nL lo (.int y :: .int x :: st) := by
  obtain ⟨⟨l, dC, dI, ac⟩, p, e, R, s, m, args, below, meth, c, Q, A⟩ := X
  obtain ⟨hR, hx, hb, hml, hown, hts, hK, hA, hMF, hrt, hlk, htr⟩ := hX
  intro H locs ls hw hl
  exact lv_imul hx hb d (k H locs ls hw hl)
theorem q_iand (hX : CxOK X own cc nL fr lc mc ms rt) {x y : Int32} (d : decode cc pc = .ok (.iand, 1)) (k : WM X o hn M G a b (pc + 1) nL lo (.int (x &&& y) :: st)) : WM X o hn M G a b pc nL lo (.int y :: .int x :: st) := by
  obtain ⟨⟨l, dC, dI, ac⟩, p, e, R, s, m, args, below, meth, c, Q, A⟩ := X
  obtain ⟨hR, hx, hb, hml, hown, hts, hK, hA, hMF, hrt, hlk, htr⟩ := hX
  intro H locs ls hw hl
  exact lv_iand hx hb d (k H locs ls hw hl)
theorem q_ishr (hX : CxOK X own cc nL fr lc mc ms rt) {x y : Int32} (d : decode cc pc = .ok (.ishr, 1)) (k : WM X o hn M G a b (pc + 1) nL lo (.int (x >>> (y &&& 31)) :: st)) : WM X o hn M G a b pc nL lo (.int y :: .int x :: st) := by
  obtain ⟨⟨l, dC, dI, ac⟩, p, e, R, s, m, args, below, meth, c, Q, A⟩ := X
  obtain ⟨hR, hx, hb, hml, hown, hts, hK, hA, hMF, hrt, hlk, htr⟩ := hX
  intro H locs ls hw hl
  exact lv_ishr hx hb d (k H locs ls hw hl)
theorem q_idiv (hX : CxOK X own cc nL fr lc mc ms rt) {x y : Int32} (h0 : ¬ y = 0) (d : decode cc pc = .ok (.idiv, 1)) (k : WM X o hn M G a b (pc + 1) nL lo (.int (x / y) :: st)) : WM X o hn M G a b pc nL lo (.int y :: .int x :: st) := by
  obtain ⟨⟨l, dC, dI, ac⟩, p, e, R, s, m, args, below, meth, c, Q, A⟩ := X
  obtain ⟨hR, hx, hb, hml, hown, hts, hK, hA, hMF, hrt, hlk, htr⟩ := hX
  intro H locs ls hw hl
  exact lv_idiv hx hb d h0 (k H locs ls hw hl)
theorem q_irem (hX : CxOK X own cc nL fr lc mc ms rt) {x y : Int32} (h0 : ¬ y = 0) (d : decode cc pc = .ok (.irem, 1)) (k : WM X o hn M G a b (pc + 1) nL lo (.int (x - x / y * y) :: st)) : WM X o hn M G a b pc nL lo (.int y :: .int x :: st) := by
  obtain ⟨⟨l, dC, dI, ac⟩, p, e, R, s, m, args, below, meth, c, Q, A⟩ := X
  obtain ⟨hR, hx, hb, hml, hown, hts, hK, hA, hMF, hrt, hlk, htr⟩ := hX
  intro H locs ls hw hl
  exact lv_irem hx hb d h0 (k H locs ls hw hl)
theorem q_ineg (hX : CxOK X own cc nL fr lc mc ms rt) {x : Int32} (d : decode cc pc = .ok (.ineg, 1)) (k : WM X o hn M G a b (pc + 1) nL lo (.int (-x) :: st)) : WM X o hn M G a b pc nL lo (.int x :: st) := by
  obtain ⟨⟨l, dC, dI, ac⟩, p, e, R, s, m, args, below, meth, c, Q, A⟩ := X
  obtain ⟨hR, hx, hb, hml, hown, hts, hK, hA, hMF, hrt, hlk, htr⟩ := hX
  intro H locs ls hw hl
  exact lv_ineg hx hb d (k H locs ls hw hl)
theorem q_i2l (hX : CxOK X own cc nL fr lc mc ms rt) {x : Int32} (d : decode cc pc = .ok (.i2l, 1)) (k : WM X o hn M G a b (pc + 1) nL lo (.long x.toInt64 :: st)) : WM X o hn M G a b pc nL lo (.int x :: st) := by
  obtain ⟨⟨l, dC, dI, ac⟩, p, e, R, s, m, args, below, meth, c, Q, A⟩ := X
  obtain ⟨hR, hx, hb, hml, hown, hts, hK, hA, hMF, hrt, hlk, htr⟩ := hX
  intro H locs ls hw hl
  exact lv_i2l hx hb d rfl (k H locs ls hw hl)
theorem q_ladd (hX : CxOK X own cc nL fr lc mc ms rt) {x y : Int64} (d : decode cc pc = .ok (.ladd, 1)) (k : WM X o hn M G a b (pc + 1) nL lo (.long (x + y) :: st)) : WM X o hn M G a b pc nL lo (.long y :: .long x :: st) := by
  obtain ⟨⟨l, dC, dI, ac⟩, p, e, R, s, m, args, below, meth, c, Q, A⟩ := X
  obtain ⟨hR, hx, hb, hml, hown, hts, hK, hA, hMF, hrt, hlk, htr⟩ := hX
  intro H locs ls hw hl
  exact lv_ladd hx hb d (k H locs ls hw hl)
theorem q_lconst (hX : CxOK X own cc nL fr lc mc ms rt) {n : Fin 2} (v : Int64) (hv : Int64.ofNat (n : Nat) = v) (d : decode cc pc = .ok (.lconst n, 1)) (k : WM X o hn M G a b (pc + 1) nL lo (.long v :: st)) : WM X o hn M G a b pc nL lo st := by
  obtain ⟨⟨l, dC, dI, ac⟩, p, e, R, s, m, args, below, meth, c, Q, A⟩ := X
  obtain ⟨hR, hx, hb, hml, hown, hts, hK, hA, hMF, hrt, hlk, htr⟩ := hX
  intro H locs ls hw hl
  exact lv_lconst hx hb d hv (k H locs ls hw hl)
theorem q_dup (hX : CxOK X own cc nL fr lc mc ms rt) {v : Value} (hv : v.category = 1) (d : decode cc pc = .ok (.dup, 1)) (k : WM X o hn M G a b (pc + 1) nL lo (v :: v :: st)) : WM X o hn M G a b pc nL lo (v :: st) := by
  obtain ⟨⟨l, dC, dI, ac⟩, p, e, R, s, m, args, below, meth, c, Q, A⟩ := X
  obtain ⟨hR, hx, hb, hml, hown, hts, hK, hA, hMF, hrt, hlk, htr⟩ := hX
  intro H locs ls hw hl
  exact lv_dup hx hb d hv (k H locs ls hw hl)
theorem q_dup2 (hX : CxOK X own cc nL fr lc mc ms rt) {v w : Value} (hv : v.category = 1) (hw' : w.category = 1) (d : decode cc pc = .ok (.dup2, 1)) (k : WM X o hn M G a b (pc + 1) nL lo (v :: w :: v :: w :: st)) : WM X o hn M G a b pc nL lo (v :: w :: st) := by
  obtain ⟨⟨l, dC, dI, ac⟩, p, e, R, s, m, args, below, meth, c, Q, A⟩ := X
  obtain ⟨hR, hx, hb, hml, hown, hts, hK, hA, hMF, hrt, hlk, htr⟩ := hX
  intro H locs ls hw hl
  exact lv_dup2_11 hx hb d hv hw' (k H locs ls hw hl)
theorem q_dup_x1 (hX : CxOK X own cc nL fr lc mc ms rt) {v w : Value} (hv : v.category = 1) (hw' : w.category = 1) (d : decode cc pc = .ok (.dup_x1, 1)) (k : WM X o hn M G a b (pc + 1) nL lo (v :: w :: v :: st)) : WM X o hn M G a b pc nL lo (v :: w :: st) := by
  obtain ⟨⟨l, dC, dI, ac⟩, p, e, R, s, m, args, below, meth, c, Q, A⟩ := X
  obtain ⟨hR, hx, hb, hml, hown, hts, hK, hA, hMF, hrt, hlk, htr⟩ := hX
  intro H locs ls hw hl
  exact lv_dup_x1 hx hb d hv hw' (k H locs ls hw hl)
theorem q_pop (hX : CxOK X own cc nL fr lc mc ms rt) {v : Value} (hv : v.category = 1) (d : decode cc pc = .ok (.pop, 1)) (k : WM X o hn M G a b (pc + 1) nL lo st) : WM X o hn M G a b pc nL lo (v :: st) := by
  obtain ⟨⟨l, dC, dI, ac⟩, p, e, R, s, m, args, below, meth, c, Q, A⟩ := X
  obtain ⟨hR, hx, hb, hml, hown, hts, hK, hA, hMF, hrt, hlk, htr⟩ := hX
  intro H locs ls hw hl
  exact lv_pop hx hb d hv (k H locs ls hw hl)
theorem q_goto (hX : CxOK X own cc nL fr lc mc ms rt) {off : Int} (tgt : Nat) (ht : (pc : Int) + off = (tgt : Int)) (d : decode cc pc = .ok (.goto off, 3)) (k : WM X o hn M G a b tgt nL lo st) : WM X o hn M G a b pc nL lo st := by
  obtain ⟨⟨l, dC, dI, ac⟩, p, e, R, s, m, args, below, meth, c, Q, A⟩ := X
  obtain ⟨hR, hx, hb, hml, hown, hts, hK, hA, hMF, hrt, hlk, htr⟩ := hX
  intro H locs ls hw hl
  exact lv_goto hx hb d ht (k H locs ls hw hl)
theorem q_ifnonnull (hX : CxOK X own cc nL fr lc mc ms rt) {x : Nat} {off : Int} (tgt : Nat) (ht : (pc : Int) + off = (tgt : Int)) (d : decode cc pc = .ok (.ifnonnull off, 3)) (k : WM X o hn M G a b tgt nL lo st) : WM X o hn M G a b pc nL lo (.ref x :: st) := by
  obtain ⟨⟨l, dC, dI, ac⟩, p, e, R, s, m, args, below, meth, c, Q, A⟩ := X
  obtain ⟨hR, hx, hb, hml, hown, hts, hK, hA, hMF, hrt, hlk, htr⟩ := hX
  intro H locs ls hw hl
  exact lv_ifnonnull hx hb d ht (k H locs ls hw hl)
theorem q_if_eq (hX : CxOK X own cc nL fr lc mc ms rt) {x : Int32} {off : Int} (tgt : Nat) (ht : (pc : Int) + off = (tgt : Int)) (d : decode cc pc = .ok (.ifCond .eq off, 3)) (kt : x = 0 → WM X o hn M G a b tgt nL lo st) (kf : ¬ x = 0 → WM X o hn M G a b (pc + 3) nL lo st) : WM X o hn M G a b pc nL lo (.int x :: st) := by
  obtain ⟨⟨l, dC, dI, ac⟩, p, e, R, s, m, args, below, meth, c, Q, A⟩ := X
  obtain ⟨hR, hx, hb, hml, hown, hts, hK, hA, hMF, hrt, hlk, htr⟩ := hX
  intro H locs ls hw hl
  exact lv_if_eq hx hb d ht (fun h => kt h H locs ls hw hl) (fun h => kf h H locs ls hw hl)
theorem q_if_ne (hX : CxOK X own cc nL fr lc mc ms rt) {x : Int32} {off : Int} (tgt : Nat) (ht : (pc : Int) + off = (tgt : Int)) (d : decode cc pc = .ok (.ifCond .ne off, 3)) (kt : ¬ x = 0 → WM X o hn M G a b tgt nL lo st) (kf : x = 0 → WM X o hn M G a b (pc + 3) nL lo st) : WM X o hn M G a b pc nL lo (.int x :: st) := by
  obtain ⟨⟨l, dC, dI, ac⟩, p, e, R, s, m, args, below, meth, c, Q, A⟩ := X
  obtain ⟨hR, hx, hb, hml, hown, hts, hK, hA, hMF, hrt, hlk, htr⟩ := hX
  intro H locs ls hw hl
  exact lv_if_ne hx hb d ht (fun h => kt h H locs ls hw hl) (fun h => kf h H locs ls hw hl)
theorem q_if_lt (hX : CxOK X own cc nL fr lc mc ms rt) {x : Int32} {off : Int} (tgt : Nat) (ht : (pc : Int) + off = (tgt : Int)) (d : decode cc pc = .ok (.ifCond .lt off, 3)) (kt : x < 0 → WM X o hn M G a b tgt nL lo st) (kf : ¬ x < 0 → WM X o hn M G a b (pc + 3) nL lo st) : WM X o hn M G a b pc nL lo (.int x :: st) := by
  obtain ⟨⟨l, dC, dI, ac⟩, p, e, R, s, m, args, below, meth, c, Q, A⟩ := X
  obtain ⟨hR, hx, hb, hml, hown, hts, hK, hA, hMF, hrt, hlk, htr⟩ := hX
  intro H locs ls hw hl
  exact lv_if_lt hx hb d ht (fun h => kt h H locs ls hw hl) (fun h => kf h H locs ls hw hl)
theorem q_if_ge (hX : CxOK X own cc nL fr lc mc ms rt) {x : Int32} {off : Int} (tgt : Nat) (ht : (pc : Int) + off = (tgt : Int)) (d : decode cc pc = .ok (.ifCond .ge off, 3)) (kt : 0 ≤ x → WM X o hn M G a b tgt nL lo st) (kf : ¬ 0 ≤ x → WM X o hn M G a b (pc + 3) nL lo st) : WM X o hn M G a b pc nL lo (.int x :: st) := by
  obtain ⟨⟨l, dC, dI, ac⟩, p, e, R, s, m, args, below, meth, c, Q, A⟩ := X
  obtain ⟨hR, hx, hb, hml, hown, hts, hK, hA, hMF, hrt, hlk, htr⟩ := hX
  intro H locs ls hw hl
  exact lv_if_ge hx hb d ht (fun h => kt h H locs ls hw hl) (fun h => kf h H locs ls hw hl)
theorem q_if_gt (hX : CxOK X own cc nL fr lc mc ms rt) {x : Int32} {off : Int} (tgt : Nat) (ht : (pc : Int) + off = (tgt : Int)) (d : decode cc pc = .ok (.ifCond .gt off, 3)) (kt : 0 < x → WM X o hn M G a b tgt nL lo st) (kf : ¬ 0 < x → WM X o hn M G a b (pc + 3) nL lo st) : WM X o hn M G a b pc nL lo (.int x :: st) := by
  obtain ⟨⟨l, dC, dI, ac⟩, p, e, R, s, m, args, below, meth, c, Q, A⟩ := X
  obtain ⟨hR, hx, hb, hml, hown, hts, hK, hA, hMF, hrt, hlk, htr⟩ := hX
  intro H locs ls hw hl
  exact lv_if_gt hx hb d ht (fun h => kt h H locs ls hw hl) (fun h => kf h H locs ls hw hl)
theorem q_if_le (hX : CxOK X own cc nL fr lc mc ms rt) {x : Int32} {off : Int} (tgt : Nat) (ht : (pc : Int) + off = (tgt : Int)) (d : decode cc pc = .ok (.ifCond .le off, 3)) (kt : x ≤ 0 → WM X o hn M G a b tgt nL lo st) (kf : ¬ x ≤ 0 → WM X o hn M G a b (pc + 3) nL lo st) : WM X o hn M G a b pc nL lo (.int x :: st) := by
  obtain ⟨⟨l, dC, dI, ac⟩, p, e, R, s, m, args, below, meth, c, Q, A⟩ := X
  obtain ⟨hR, hx, hb, hml, hown, hts, hK, hA, hMF, hrt, hlk, htr⟩ := hX
  intro H locs ls hw hl
  exact lv_if_le hx hb d ht (fun h => kt h H locs ls hw hl) (fun h => kf h H locs ls hw hl)
theorem q_icmp_eq (hX : CxOK X own cc nL fr lc mc ms rt) {x y : Int32} {off : Int} (tgt : Nat) (ht : (pc : Int) + off = (tgt : Int)) (d : decode cc pc = .ok (.if_icmp .eq off, 3)) (kt : x = y → WM X o hn M G a b tgt nL lo st) (kf : ¬ x = y → WM X o hn M G a b (pc + 3) nL lo st) : WM X o hn M G a b pc nL lo (.int y :: .int x :: st) := by
  obtain ⟨⟨l, dC, dI, ac⟩, p, e, R, s, m, args, below, meth, c, Q, A⟩ := X
  obtain ⟨hR, hx, hb, hml, hown, hts, hK, hA, hMF, hrt, hlk, htr⟩ := hX
  intro H locs ls hw hl
  exact lv_icmp_eq hx hb d ht (fun h => kt h H locs ls hw hl) (fun h => kf h H locs ls hw hl)
theorem q_icmp_ne (hX : CxOK X own cc nL fr lc mc ms rt) {x y : Int32} {off : Int} (tgt : Nat) (ht : (pc : Int) + off = (tgt : Int)) (d : decode cc pc = .ok (.if_icmp .ne off, 3)) (kt : ¬ x = y → WM X o hn M G a b tgt nL lo st) (kf : x = y → WM X o hn M G a b (pc + 3) nL lo st) : WM X o hn M G a b pc nL lo (.int y :: .int x :: st) := by
  obtain ⟨⟨l, dC, dI, ac⟩, p, e, R, s, m, args, below, meth, c, Q, A⟩ := X
  obtain ⟨hR, hx, hb, hml, hown, hts, hK, hA, hMF, hrt, hlk, htr⟩ := hX
  intro H locs ls hw hl
  exact lv_icmp_ne hx hb d ht (fun h => kt h H locs ls hw hl) (fun h => kf h H locs ls hw hl)
theorem q_icmp_lt (hX : CxOK X own cc nL fr lc mc ms rt) {x y : Int32} {off : Int} (tgt : Nat) (ht : (pc : Int) + off = (tgt : Int)) (d : decode cc pc = .ok (.if_icmp .lt off, 3)) (kt : x < y → WM X o hn M G a b tgt nL lo st) (kf : ¬ x < y → WM X o hn M G a b (pc + 3) nL lo st) : WM X o hn M G a b pc nL lo (.int y :: .int x :: st) := by
  obtain ⟨⟨l, dC, dI, ac⟩, p, e, R, s, m, args, below, meth, c, Q, A⟩ := X
  obtain ⟨hR, hx, hb, hml, hown, hts, hK, hA, hMF, hrt, hlk, htr⟩ := hX
  intro H locs ls hw hl
  exact lv_icmp_lt hx hb d ht (fun h => kt h H locs ls hw hl) (fun h => kf h H locs ls hw hl)
theorem q_icmp_ge (hX : CxOK X own cc nL fr lc mc ms rt) {x y : Int32} {off : Int} (tgt : Nat) (ht : (pc : Int) + off = (tgt : Int)) (d : decode cc pc = .ok (.if_icmp .ge off, 3)) (kt : y ≤ x → WM X o hn M G a b tgt nL lo st) (kf : ¬ y ≤ x → WM X o hn M G a b (pc + 3) nL lo st) : WM X o hn M G a b pc nL lo (.int y :: .int x :: st) := by
  obtain ⟨⟨l, dC, dI, ac⟩, p, e, R, s, m, args, below, meth, c, Q, A⟩ := X
  obtain ⟨hR, hx, hb, hml, hown, hts, hK, hA, hMF, hrt, hlk, htr⟩ := hX
  intro H locs ls hw hl
  exact lv_icmp_ge hx hb d ht (fun h => kt h H locs ls hw hl) (fun h => kf h H locs ls hw hl)
theorem q_icmp_gt (hX : CxOK X own cc nL fr lc mc ms rt) {x y : Int32} {off : Int} (tgt : Nat) (ht : (pc : Int) + off = (tgt : Int)) (d : decode cc pc = .ok (.if_icmp .gt off, 3)) (kt : y < x → WM X o hn M G a b tgt nL lo st) (kf : ¬ y < x → WM X o hn M G a b (pc + 3) nL lo st) : WM X o hn M G a b pc nL lo (.int y :: .int x :: st) := by
  obtain ⟨⟨l, dC, dI, ac⟩, p, e, R, s, m, args, below, meth, c, Q, A⟩ := X
  obtain ⟨hR, hx, hb, hml, hown, hts, hK, hA, hMF, hrt, hlk, htr⟩ := hX
  intro H locs ls hw hl
  exact lv_icmp_gt hx hb d ht (fun h => kt h H locs ls hw hl) (fun h => kf h H locs ls hw hl)
theorem q_icmp_le (hX : CxOK X own cc nL fr lc mc ms rt) {x y : Int32} {off : Int} (tgt : Nat) (ht : (pc : Int) + off = (tgt : Int)) (d : decode cc pc = .ok (.if_icmp .le off, 3)) (kt : x ≤ y → WM X o hn M G a b tgt nL lo st) (kf : ¬ x ≤ y → WM X o hn M G a b (pc + 3) nL lo st) : WM X o hn M G a b pc nL lo (.int y :: .int x :: st) := by
  obtain ⟨⟨l, dC, dI, ac⟩, p, e, R, s, m, args, below, meth, c, Q, A⟩ := X
  obtain ⟨hR, hx, hb, hml, hown, hts, hK, hA, hMF, hrt, hlk, htr⟩ := hX
  intro H locs ls hw hl
  exact lv_icmp_le hx hb d ht (fun h => kt h H locs ls hw hl) (fun h => kf h H locs ls hw hl)
/-- a field's link: its own class's, or a nest mate's -/
def FL (own : String) (idx : Nat) (ref n d : String) : Prop := Cond.fieldLink own idx ref n d ∈ BG ∨ ∃ host : String, Cond.fieldLinkNest own idx ref n d host ∈ lw_tbl
theorem q_get (hX : CxOK X own cc nL fr lc mc ms rt) {C : String} {T : u_T} {N ci index id : Nat} {fs : List Value} {v : Value} (j : Nat) (hk : id < 46 + 7 * hn) (he : ob X.1.2.2.2 o hn id (M id) (G id) = .inr (ci, fs)) (hc : vwCl[ci]? = some (C, T, N)) (hin : ∀ w ∈ u_ws C T N, w ∈ BG) (hj : j < N) (hfl : FL own index (T j).1 (T j).2.1 (T j).2.2.1) (hv : fs[j]? = some v) (d : decode cc pc = .ok (.getfield index, 3)) (k : WM X o hn M G a b (pc + 3) nL lo (v :: st)) : WM X o hn M G a b pc nL lo (.ref (o id) :: st) := by
  obtain ⟨⟨l, dC, dI, ac⟩, p, e, R, s, m, args, below, meth, c, Q, A⟩ := X
  obtain ⟨hR, hx, hb, hml, hown, hts, hK, hA, hMF, hrt, hlk, htr⟩ := hX
  intro H locs ls hw hl
  rcases hfl with hfl | ⟨host, hfl⟩
  · exact va_get hx hb hts hin hown hK hw.1 id (wd_at hk he) hc j hj (hts _ hfl) (fun _ h9 => h9) hv d (k H locs ls hw hl)
  · exact va_getN hx hb hts hin hown hK hw.1 id (wd_at hk he) hc j hj (xtra_use rfl (hMF.1 _ hfl rfl)) (fun _ h9 => h9) hv d (k H locs ls hw hl)
theorem q_put (hX : CxOK X own cc nL fr lc mc ms rt) {C : String} {T : u_T} {N ci index id : Nat} {fs : List Value} {v : Value} {ty : FieldType} {ty0 : Nat → FieldType} {M' : Mem} {G' : Mel} (j : Nat) (hk : id < 46 + 7 * hn) (he : ob X.1.2.2.2 o hn id (M id) (G id) = .inr (ci, fs)) (he' : ob X.1.2.2.2 o hn id (M' id) (G' id) = .inr (ci, fs.set j v)) (hM : ∀ q, q ≠ id → M' q = M q) (hG : ∀ q, q ≠ id → G' q = G q) (hc : vwCl[ci]? = some (C, T, N)) (hin : ∀ w ∈ u_ws C T N, w ∈ BG) (hty : ∀ k, k < N → parseFieldDescriptor (T k).2.2.1 = some (ty0 k)) (hnm : ∀ a, a < N → ∀ b, b < N → a ≠ b → (T a).2.1 ≠ (T b).2.1) (hj : j < N) (hfl : FL own index (T j).1 (T j).2.1 (T j).2.2.1) (hfin : (T j).2.2.2 = false) (hd : parseFieldDescriptor (T j).2.2.1 = some ty) (hna : narrow ty v = v) (hfit : fits ty v = true) (hlen : j < fs.length) (d : decode cc pc = .ok (.putfield index, 3)) (k : WM X o hn M' G' a b (pc + 3) nL lo st) : WM X o hn M G a b pc nL lo (v :: .ref (o id) :: st) := by
  obtain ⟨⟨l, dC, dI, ac⟩, p, e, R, s, m, args, below, meth, c, Q, A⟩ := X
  obtain ⟨hR, hx, hb, hml, hown, hts, hK, hA, hMF, hrt, hlk, htr⟩ := hX
  intro H locs ls hw hl
  rcases hfl with hfl | ⟨host, hfl⟩
  · refine va_put (ty := ty) hx hb hts hin ty0 hty hnm hown hK hw.1 hw.2.1 hw.2.2 id (wd_at hk he) hc j hj (hts _ hfl) (fun _ h9 => h9) hfin hd hna hfit hlen d (fun H1 locs1 hP hD hS => ?_)
    rw [wd_set he' hM hG] at hP hD
    exact k H1 locs1 ls ⟨hP, hD, hS⟩ hl
  · refine va_putN (ty := ty) hx hb hts hin ty0 hty hnm hown hK hw.1 hw.2.1 hw.2.2 id (wd_at hk he) hc j hj (xtra_use rfl (hMF.1 _ hfl rfl)) (fun _ h9 => h9) hfin hd hna hfit hlen d (fun H1 locs1 hP hD hS => ?_)
    rw [wd_set he' hM hG] at hP hD
    exact k H1 locs1 ls ⟨hP, hD, hS⟩ hl
theorem q_alen (hX : CxOK X own cc nL fr lc mc ms rt) {id t : Nat} {x : vp_A} {cA : ClassId} {ty : FieldType} (v : Int32) (hk : id < 46 + 7 * hn) (he : ob X.1.2.2.2 o hn id (M id) (G id) = .inl (cA, x)) (ht : (tysL X.1.2.2.2)[t]? = some (cA, ty)) (hv : Int32.ofNat x.1 = v) (d : decode cc pc = .ok (.arraylength, 1)) (k : WM X o hn M G a b (pc + 1) nL lo (.int v :: st)) : WM X o hn M G a b pc nL lo (.ref (o id) :: st) := by
  obtain ⟨⟨l, dC, dI, ac⟩, p, e, R, s, m, args, below, meth, c, Q, A⟩ := X
  obtain ⟨hR, hx, hb, hml, hown, hts, hK, hA, hMF, hrt, hlk, htr⟩ := hX
  intro H locs ls hw hl
  exact va_alen hx hb hK hw.1 id t (wd_at hk he) ht hv d (k H locs ls hw hl)
theorem q_iald (hX : CxOK X own cc nL fr lc mc ms rt) {id n : Nat} {i : Int32} (hk : id < 46 + 7 * hn) (he : ob X.1.2.2.2 o hn id (M id) (G id) = .inl (X.1.2.2.2 0, n, .inl (M id))) (hi : vp_in i n) (d : decode cc pc = .ok (.iaload, 1)) (k : WM X o hn M G a b (pc + 1) nL lo (.int (M id i.toNatClampNeg) :: st)) : WM X o hn M G a b pc nL lo (.int i :: .ref (o id) :: st) := by
  obtain ⟨⟨l, dC, dI, ac⟩, p, e, R, s, m, args, below, meth, c, Q, A⟩ := X
  obtain ⟨hR, hx, hb, hml, hown, hts, hK, hA, hMF, hrt, hlk, htr⟩ := hX
  intro H locs ls hw hl
  exact va_iald hx hb hK hw.1 id 0 (wd_at hk he) rfl hi d (k H locs ls hw hl)
theorem q_zald (hX : CxOK X own cc nL fr lc mc ms rt) {id n : Nat} {i : Int32} (hk : id < 46 + 7 * hn) (he : ob X.1.2.2.2 o hn id (M id) (G id) = .inl (X.1.2.2.2 2, n, .inl (M id))) (hi : vp_in i n) (d : decode cc pc = .ok (.baload, 1)) (k : WM X o hn M G a b (pc + 1) nL lo (.int (M id i.toNatClampNeg) :: st)) : WM X o hn M G a b pc nL lo (.int i :: .ref (o id) :: st) := by
  obtain ⟨⟨l, dC, dI, ac⟩, p, e, R, s, m, args, below, meth, c, Q, A⟩ := X
  obtain ⟨hR, hx, hb, hml, hown, hts, hK, hA, hMF, hrt, hlk, htr⟩ := hX
  intro H locs ls hw hl
  exact va_zald hx hb hK hw.1 id 2 (wd_at hk he) rfl hi d (k H locs ls hw hl)
theorem q_lald (hX : CxOK X own cc nL fr lc mc ms rt) {id n : Nat} {i : Int32} (hk : id < 46 + 7 * hn) (he : ob X.1.2.2.2 o hn id (M id) (G id) = .inl (X.1.2.2.2 1, n, .inr (.inl (G id)))) (hi : vp_in i n) (d : decode cc pc = .ok (.laload, 1)) (k : WM X o hn M G a b (pc + 1) nL lo (.long (G id i.toNatClampNeg) :: st)) : WM X o hn M G a b pc nL lo (.int i :: .ref (o id) :: st) := by
  obtain ⟨⟨l, dC, dI, ac⟩, p, e, R, s, m, args, below, meth, c, Q, A⟩ := X
  obtain ⟨hR, hx, hb, hml, hown, hts, hK, hA, hMF, hrt, hlk, htr⟩ := hX
  intro H locs ls hw hl
  exact va_lald hx hb hK hw.1 id 1 (wd_at hk he) rfl hi d (k H locs ls hw hl)
theorem q_iast (hX : CxOK X own cc nL fr lc mc ms rt) {id n : Nat} {i x : Int32} (hk : id < 46 + 7 * hn) (he : ∀ f g, ob X.1.2.2.2 o hn id f g = .inl (X.1.2.2.2 0, n, .inl f)) (hi : vp_in i n) (d : decode cc pc = .ok (.iastore, 1)) (k : WM X o hn (mst M id i.toNatClampNeg x) G a b (pc + 1) nL lo st) : WM X o hn M G a b pc nL lo (.int x :: .int i :: .ref (o id) :: st) := by
  obtain ⟨⟨l, dC, dI, ac⟩, p, e, R, s, m, args, below, meth, c, Q, A⟩ := X
  obtain ⟨hR, hx, hb, hml, hown, hts, hK, hA, hMF, hrt, hlk, htr⟩ := hX
  intro H locs ls hw hl
  refine va_iast hx hb hK hw.1 hw.2.1 hw.2.2 id 0 (wd_at hk (he _ _)) rfl hi d (fun H1 locs1 hP hD hS => ?_)
  rw [wd_set (M' := mst M id i.toNatClampNeg x) (G' := G) (by rw [mst_self]; exact he _ _) (fun q hq => mst_ne M _ x hq) (fun _ _ => rfl)] at hP hD
  exact k H1 locs1 ls ⟨hP, hD, hS⟩ hl
theorem q_zast (hX : CxOK X own cc nL fr lc mc ms rt) {id n : Nat} {i x : Int32} (hk : id < 46 + 7 * hn) (he : ∀ f g, ob X.1.2.2.2 o hn id f g = .inl (X.1.2.2.2 2, n, .inl f)) (hi : vp_in i n) (d : decode cc pc = .ok (.bastore, 1)) (k : WM X o hn (mst M id i.toNatClampNeg (vp_nar .boolean x)) G a b (pc + 1) nL lo st) : WM X o hn M G a b pc nL lo (.int x :: .int i :: .ref (o id) :: st) := by
  obtain ⟨⟨l, dC, dI, ac⟩, p, e, R, s, m, args, below, meth, c, Q, A⟩ := X
  obtain ⟨hR, hx, hb, hml, hown, hts, hK, hA, hMF, hrt, hlk, htr⟩ := hX
  intro H locs ls hw hl
  refine va_zast hx hb hK hw.1 hw.2.1 hw.2.2 id 2 (wd_at hk (he _ _)) rfl hi d (fun H1 locs1 hP hD hS => ?_)
  rw [wd_set (M' := mst M id i.toNatClampNeg (vp_nar .boolean x)) (G' := G) (by rw [mst_self]; exact he _ _) (fun q hq => mst_ne M _ _ hq) (fun _ _ => rfl)] at hP hD
  exact k H1 locs1 ls ⟨hP, hD, hS⟩ hl
theorem q_last (hX : CxOK X own cc nL fr lc mc ms rt) {id n : Nat} {i : Int32} {x : Int64} (hk : id < 46 + 7 * hn) (he : ∀ f g, ob X.1.2.2.2 o hn id f g = .inl (X.1.2.2.2 1, n, .inr (.inl g))) (hi : vp_in i n) (d : decode cc pc = .ok (.lastore, 1)) (k : WM X o hn M (mstL G id i.toNatClampNeg x) a b (pc + 1) nL lo st) : WM X o hn M G a b pc nL lo (.long x :: .int i :: .ref (o id) :: st) := by
  obtain ⟨⟨l, dC, dI, ac⟩, p, e, R, s, m, args, below, meth, c, Q, A⟩ := X
  obtain ⟨hR, hx, hb, hml, hown, hts, hK, hA, hMF, hrt, hlk, htr⟩ := hX
  intro H locs ls hw hl
  refine va_last hx hb hK hw.1 hw.2.1 hw.2.2 id 1 (wd_at hk (he _ _)) rfl hi d (fun H1 locs1 hP hD hS => ?_)
  rw [wd_set (M' := M) (G' := mstL G id i.toNatClampNeg x) (by rw [mstL_self]; exact he _ _) (fun _ _ => rfl) (fun q hq => mstL_ne G _ x hq)] at hP hD
  exact k H1 locs1 ls ⟨hP, hD, hS⟩ hl
theorem q_aald (hX : CxOK X own cc nL fr lc mc ms rt) {i : Int32} (hi : vp_in i 6) (hlt : i.toNatClampNeg < hn) (d : decode cc pc = .ok (.aaload, 1)) (k : WM X o hn M G a b (pc + 1) nL lo (.ref (o (46 + 7 * i.toNatClampNeg)) :: st)) : WM X o hn M G a b pc nL lo (.int i :: .ref (o 29) :: st) := by
  obtain ⟨⟨l, dC, dI, ac⟩, p, e, R, s, m, args, below, meth, c, Q, A⟩ := X
  obtain ⟨hR, hx, hb, hml, hown, hts, hK, hA, hMF, hrt, hlk, htr⟩ := hX
  intro H locs ls hw hl
  refine va_aldq hx hb hK hw.1 29 3 (wd_at (by omega) rfl) rfl hi d ?_
  rw [if_pos hlt]
  exact k H locs ls hw hl
end Rows
end
section
/-! contracts over the one world; calls; returns; throws -/
abbrev Rs : Type := Sum (Option Value) String
def EndW (Y : Lx) (A : Nat → Prop) (o : Nat → Nat) (hn : Nat) (M : Mem) (G : Mel) (t : State) : Prop := va_P (Y.2.1, Y.2.2.1) vwCl (Wd Y.2.2.2 o hn M G) t.heap ∧ va_K (Y.2.1, Y.2.2.1) vwCl (tysL Y.2.2.2) t ∧ va_D A (Wd Y.2.2.2 o hn M G)
def QcM (Y : Lx) (A : Nat → Prop) (o : Nat → Nat) (hn : Nat) (M : Mem) (G : Mel) (rs : Rs) : Array Value → State → Outcome → State → Prop := fun _ st oc t => (∃ rv : Option Value, rs = .inl rv ∧ oc = .returned rv) ∧ EndW Y A o hn M G t ∧ va_F A st t
def XcM (Y : Lx) (A : Nat → Prop) (o : Nat → Nat) (hn : Nat) (M : Mem) (G : Mel) (rs : Rs) : String → State → State → Prop := fun E st t => rs = .inr E ∧ EndW Y A o hn M G t ∧ va_F A st t
def PreM (Y : Lx) (o : Nat → Nat) (hn : Nat) (M : Mem) (G : Mel) (sz : Nat) (U : State) : Prop := U.heap.size = sz ∧ va_P (Y.2.1, Y.2.2.1) vwCl (Wd Y.2.2.2 o hn M G) U.heap ∧ va_K (Y.2.1, Y.2.2.1) vwCl (tysL Y.2.2.2) U ∧ va_D (fun _ => True) (Wd Y.2.2.2 o hn M G) ∧ MF (va_A (Wd Y.2.2.2 o hn M G) sz) U U.heap
/-- a method's contract: from the world of M, G with these arguments it comes to rs and the world of M', G' -/
def MI (Y : Lx) (y : MethodName) (bytes : ByteArray) (maxL : Nat) (ret : Option FieldType) (fr lc mc ms : Nat) (av : List Value) (o : Nat → Nat) (hn : Nat) (M : Mem) (G : Mel) (rs : Rs) (M' : Mem) (G' : Mel) : Prop :=
  Y.1.stackTraces = false → ∀ sz : Nat, vx_Met Y.1 y (.code y bytes maxL ret :: BG) { frames := fr, cells := mc, slots := ms, locals := lc } (va_Pc av (PreM Y o hn M G sz)) (QcM Y (va_A (Wd Y.2.2.2 o hn M G) sz) o hn M' G' rs) (XcM Y (va_A (Wd Y.2.2.2 o hn M G) sz) o hn M' G' rs) mc ms (va_A (Wd Y.2.2.2 o hn M G) sz)
def CxR (X : Cx) (mc ms : Nat) (o : Nat → Nat) (hn : Nat) (M : Mem) (G : Mel) (rs : Rs) : Prop :=
  match X with
  | (Y, _, _, _, s, _, args, below, _, _, Q, A) => Q = vx_MQ below (QcM Y A o hn M G rs) (XcM Y A o hn M G rs) args s mc ms A
def CxE (X : Cx) (tb : List ExceptionTableEntry) : Prop :=
  match X with
  | (_, _, _, _, _, _, _, _, _, c, _, _) => c.exceptionTable.toList = tb
/-- thrown: an object of E lies over the frame at pc -/
def WX (X : Cx) (o : Nat → Nat) (hn : Nat) (M : Mem) (G : Mel) (k n pc nL : Nat) (lo : List (Nat × Value)) (rest : List Value) (E : String) : Prop :=
  match X with
  | ((l, dC, dI, ac), p, e, R, s, m, args, below, meth, c, Q, A) => ∀ (H : Heap) (locs : List Loc) (ls : Array Slot) (q : Addr) (ce : Cell), HW dC dI A (Wd ac o hn M G) s.heap H locs → lv_has ls nL lo → H[q]? = some ce → ce.vm = .none → s.vm.findClass E = some ce.cls → vx_W p l e R s m args below meth c H locs k n Q (F0 m pc ls rest) q
theorem PreM.blind (Y : Lx) (av : List Value) (o : Nat → Nat) (hn : Nat) (M : Mem) (G : Mel) (sz : Nat) : FrameBlind (va_Pc av (PreM Y o hn M G sz)) := by
  intro a U g mk q
  obtain ⟨q0, q1, q2, q3, q4, q5⟩ := q
  exact ⟨q0, q1, q2, va_K.moved (u := U) (U := U.calling g mk a) (Vm.Alike.refl U.vm) q3, q4, MF.same (s := U) (U := U.calling g mk a) q5 rfl⟩
theorem va_freeAll {A0 : Nat → Prop} {ws : va_W} {H0 H : Heap} {locs : List Loc} (hD : va_D A0 ws) (hS : va_S A0 H0 H locs) (hA : ∀ q, H0.size ≤ q → A0 q) : ∀ q, va_A ws H.size q → A0 q := by
  intro q h
  rcases h with ⟨k, e, h⟩ | h
  · exact hD.2 k _ h
  · exact hA q (Nat.le_trans hS.1 h)
theorem PreM.at {Y : Lx} {A : Nat → Prop} {o : Nat → Nat} {hn : Nat} {M : Mem} {G : Mel} {s U : State} {H : Heap} {locs : List Loc} (hw : HW Y.2.1 Y.2.2.1 A (Wd Y.2.2.2 o hn M G) s.heap H locs) (hK : va_K (Y.2.1, Y.2.2.1) vwCl (tysL Y.2.2.2) s) (hA : ∀ q : Nat, s.heap.size ≤ q → A q) (hMF : MF A s s.heap) (hU : U.heap = H) (hW : s.WarmedH U.vm) : PreM Y o hn M G H.size U := by
  refine ⟨by rw [hU], by rw [hU]; exact hw.1, hK.moved hW.alike, hw.2.1.weaken (fun _ _ _ _ => trivial), ?_⟩
  rw [hU]
  exact hMF.warm hW (va_freeAll hw.2.1 hw.2.2 hA) hw.2.2.2.1
theorem MI.of {Y : Lx} {y : MethodName} {bytes : ByteArray} {maxL : Nat} {ret : Option FieldType} {fr lc mc ms : Nat} {av : List Value} {o : Nat → Nat} {hn : Nat} {M M' : Mem} {G G' : Mel} {rs : Rs} (hy : plainName y.cls = true) (hlen : (lg_sl av).length ≤ maxL)
    (body : ∀ X : Cx, X.1 = Y → CxOK X y.cls bytes maxL fr lc mc ms ret → CxE X [] → CxR X mc ms o hn M' G' rs → WM X o hn M G 0 0 0 maxL (lv_args 0 av) []) : MI Y y bytes maxL ret fr lc mc ms av o hn M G rs M' G' := by
  intro htr sz
  refine vx_ofW (cc := bytes) (maxL := maxL) (ret := ret) hy rfl ?_
  intro p e s m args below meth c s₁ B hml hno hv
  obtain ⟨rfl, hsz, hP, hK, hD0, hMF⟩ := hv
  subst hsz
  have hts := atoms_spec (ws := .code y bytes maxL ret :: BG) B.pre
  have hne : c.exceptionTable.toList = [] := by
    cases h : c.exceptionTable.toList with
    | nil => rfl
    | cons x xs => exact (hno x (by rw [h]; exact List.mem_cons_self)).elim
  have key := body (Y, p, e, { frames := fr, cells := mc, slots := ms, locals := lc }, s, m, av.toArray, below, meth, c, _, va_A (Wd Y.2.2.2 o hn M G) s.heap.size) rfl ⟨rfl, B.exec, B.bytes, hml, findClass_of_methodNamed B.named, fun w h => hts w (List.mem_cons_of_mem _ h), hK, fun q h => Or.inr h, hMF, B.returns, B.notSynchronized, htr⟩ hne rfl
  rw [lg_entry_eq]
  exact key s.heap [] _ ⟨hP, hD0.self, va_S.rf⟩ (lv_entry av hlen)
section Ends
variable {X : Cx} {own : String} {cc : ByteArray} {nL fr lc mc ms : Nat} {rt : Option FieldType} {o : Nat → Nat} {hn : Nat} {M : Mem} {G : Mel} {a b pc : Nat} {lo : List (Nat × Value)} {st : List Value}
theorem q_widen {k n : Nat} (h1 : a ≤ k) (h2 : b ≤ n) (kk : WM X o hn M G k n pc nL lo st) : WM X o hn M G a b pc nL lo st := by
  obtain ⟨⟨l, dC, dI, ac⟩, p, e, R, s, m, args, below, meth, c, Q, A⟩ := X
  intro H locs ls hw hl
  exact W.widen h1 h2 (kk H locs ls hw hl)
theorem q_iret (hX : CxOK X own cc nL fr lc mc ms (some .int)) {v : Int32} (hR : CxR X mc ms o hn M G (.inl (some (.int v)))) (h1 : a ≤ mc) (h2 : b ≤ ms) (d : decode cc pc = .ok (.ireturn, 1)) : WM X o hn M G a b pc nL lo [.int v] := by
  refine q_widen h1 h2 ?_
  obtain ⟨⟨l, dC, dI, ac⟩, p, e, R, s, m, args, below, meth, c, Q, A⟩ := X
  obtain ⟨hRm, hx, hb, hml, hown, hts, hK, hA, hMF, hrt, hlk, htr⟩ := hX
  cases hR
  intro H locs ls hw hl
  exact vx_ret (W.iret (v := v) hx hb hrt (fun t ht hW => ⟨⟨_, rfl, rfl⟩, ⟨by rw [ht]; exact hw.1, hK.moved hW.alike, hw.2.1⟩, hw.2.2.F ht⟩) hw.2.2.2.2 d hlk)
theorem q_zret (hX : CxOK X own cc nL fr lc mc ms (some .boolean)) {v : Int32} (hv : v = 0 ∨ v = 1) (hR : CxR X mc ms o hn M G (.inl (some (.int v)))) (h1 : a ≤ mc) (h2 : b ≤ ms) (d : decode cc pc = .ok (.ireturn, 1)) : WM X o hn M G a b pc nL lo [.int v] := by
  refine q_widen h1 h2 ?_
  obtain ⟨⟨l, dC, dI, ac⟩, p, e, R, s, m, args, below, meth, c, Q, A⟩ := X
  obtain ⟨hRm, hx, hb, hml, hown, hts, hK, hA, hMF, hrt, hlk, htr⟩ := hX
  cases hR
  intro H locs ls hw hl
  exact vx_ret (W.zret (v := v) (ty := .boolean) hx hb hrt (by rcases hv with rfl | rfl <;> rfl) (fun t ht hW => ⟨⟨_, rfl, rfl⟩, ⟨by rw [ht]; exact hw.1, hK.moved hW.alike, hw.2.1⟩, hw.2.2.F ht⟩) hw.2.2.2.2 d hlk)
theorem q_lret (hX : CxOK X own cc nL fr lc mc ms (some .long)) {v : Int64} (hR : CxR X mc ms o hn M G (.inl (some (.long v)))) (h1 : a ≤ mc) (h2 : b ≤ ms) (d : decode cc pc = .ok (.lreturn, 1)) : WM X o hn M G a b pc nL lo [.long v] := by
  refine q_widen h1 h2 ?_
  obtain ⟨⟨l, dC, dI, ac⟩, p, e, R, s, m, args, below, meth, c, Q, A⟩ := X
  obtain ⟨hRm, hx, hb, hml, hown, hts, hK, hA, hMF, hrt, hlk, htr⟩ := hX
  cases hR
  intro H locs ls hw hl
  exact vx_ret (W.lret (v := v) hx hb hrt (fun t ht hW => ⟨⟨_, rfl, rfl⟩, ⟨by rw [ht]; exact hw.1, hK.moved hW.alike, hw.2.1⟩, hw.2.2.F ht⟩) hw.2.2.2.2 d hlk)
theorem q_aret (hX : CxOK X own cc nL fr lc mc ms (some (.object "Timesheets$Employee"))) {q : Nat} (hR : CxR X mc ms o hn M G (.inl (some (.ref q)))) (h1 : a ≤ mc) (h2 : b ≤ ms) (d : decode cc pc = .ok (.areturn, 1)) : WM X o hn M G a b pc nL lo [.ref q] := by
  refine q_widen h1 h2 ?_
  obtain ⟨⟨l, dC, dI, ac⟩, p, e, R, s, m, args, below, meth, c, Q, A⟩ := X
  obtain ⟨hRm, hx, hb, hml, hown, hts, hK, hA, hMF, hrt, hlk, htr⟩ := hX
  cases hR
  intro H locs ls hw hl
  exact vx_ret (W.aret (v := .ref q) hx hb hrt (Or.inl ⟨_, rfl⟩) (Or.inr ⟨_, rfl⟩) (fun t ht hW => ⟨⟨_, rfl, rfl⟩, ⟨by rw [ht]; exact hw.1, hK.moved hW.alike, hw.2.1⟩, hw.2.2.F ht⟩) hw.2.2.2.2 d hlk)
theorem q_vret (hX : CxOK X own cc nL fr lc mc ms none) (hR : CxR X mc ms o hn M G (.inl none)) (h1 : a ≤ mc) (h2 : b ≤ ms) (d : decode cc pc = .ok (.return_, 1)) : WM X o hn M G a b pc nL lo [] := by
  refine q_widen h1 h2 ?_
  obtain ⟨⟨l, dC, dI, ac⟩, p, e, R, s, m, args, below, meth, c, Q, A⟩ := X
  obtain ⟨hRm, hx, hb, hml, hown, hts, hK, hA, hMF, hrt, hlk, htr⟩ := hX
  cases hR
  intro H locs ls hw hl
  exact vx_ret (W.vret hx hb hrt (fun t ht hW => ⟨⟨_, rfl, rfl⟩, ⟨by rw [ht]; exact hw.1, hK.moved hW.alike, hw.2.1⟩, hw.2.2.F ht⟩) hw.2.2.2.2 d hlk)
/-- not caught here -/
theorem q_out (hX : CxOK X own cc nL fr lc mc ms rt) (hE : CxE X []) {E : String} (hR : CxR X mc ms o hn M G (.inr E)) (h1 : a ≤ mc) (h2 : b ≤ ms) : WX X o hn M G a b pc nL lo st E := by
  obtain ⟨⟨l, dC, dI, ac⟩, p, e, R, s, m, args, below, meth, c, Q, A⟩ := X
  obtain ⟨hRm, hx, hb, hml, hown, hts, hK, hA, hMF, hrt, hlk, htr⟩ := hX
  cases hR
  intro H locs ls q ce hw hl hcell hv hcl
  refine vx_out (fun x hx9 => ?_) hlk hcell hv hcl (fun t ht hvm => ⟨rfl, ⟨by rw [ht]; exact hw.1, hK.moved hvm, hw.2.1⟩, hw.2.2.F ht⟩) hw.2.2.2.2 h1 h2
  rw [hE] at hx9
  cases hx9
/-- 'throw new E("text")' in the class Timesheets -/
theorem q_throwS (hX : CxOK X RX6 cc nL fr lc mc ms rt) (hE : CxE X []) {E text : String} {ik is ic : Nat} (hR : CxR X mc ms o hn M G (.inr E))
    (hk : Cond.classLink RX6 ik E ∈ BG) (hini : Cond.initialized E ∈ BG) (hstr : (is, text) ∈ strL) (hfit : Bundle.fit E = true)
    (hat : ∀ w ∈ vx_atS RX6 ic E ["java/lang/RuntimeException", "java/lang/Exception"], w ∈ lw_tbl ∧ (goodWord w = true ∨ xtra w = true)) (hot : ∀ w ∈ vx_atS RX6 ic E ["java/lang/RuntimeException", "java/lang/Exception"], vx_ot w = true)
    (hfr : 5 < fr) (hlc : 90 ≤ lc) (hst : (st.map fun v => v.category).sum ≤ 8) (h1 : a + 1 ≤ mc) (h2 : b + 6 ≤ ms)
    (d0 : decode cc pc = .ok (.new ik, 3)) (d3 : decode cc (pc + 3) = .ok (.dup, 1)) (d4 : decode cc (pc + 4) = .ok (.ldc is, 2)) (d6 : decode cc (pc + 6) = .ok (.invokespecial ic, 3)) (d9 : decode cc (pc + 9) = .ok (.athrow, 1)) : WM X o hn M G a b pc nL lo st := by
  obtain ⟨⟨l, dC, dI, ac⟩, p, e, R, s, m, args, below, meth, c, Q, A⟩ := X
  obtain ⟨hRm, hx, hb, hml, hown, hts, hK, hA, hMF, hrt, hlk, htr⟩ := hX
  cases hR
  intro H locs ls hw hl
  obtain ⟨sa, hsa⟩ := hMF.2.1 _ hstr
  refine vx_throwS (sa := sa) (names := ["java/lang/RuntimeException", "java/lang/Exception"]) (A := A) hx hb htr hown hfit (by decide +kernel) (hts _ hk) (hts _ hini) hsa (fun w h => ?_) (fun w h => ?_) hMF.2.2.2.1 hMF.2.2.2.2 hw.2.2 (by rw [hl.1, hml]) d0 d3 d4 d6 d9 (fun x hx9 => ?_) (by rw [hRm]; exact hfr) (by rw [hRm]; show _ + (13 * 3 + 43) ≤ lc; omega) (by rw [hRm]; exact h1) (by rw [hRm]; exact h2) hlk (fun t hvm hsz hkeep => ⟨rfl, ⟨hw.1.kept (fun k q hq => hkeep _ ((hw.1 k q hq).lt)), hK.moved hvm, hw.2.1⟩, Nat.le_trans hw.2.2.1 hsz, fun q hq1 hq2 => (hkeep q (Nat.lt_of_lt_of_le hq1 hw.2.2.1)).trans (hw.2.2.2.1 q hq1 hq2)⟩) hw.2.2.2.2 h1 h2
  · obtain ⟨g1, g2 | g2⟩ := hat w h
    · exact hts w (List.mem_filter.mpr ⟨g1, g2⟩)
    · exact xtra_use g2 (hMF.1 w g1 g2)
  · rcases List.mem_cons.mp h with rfl | h
    · rfl
    · rcases List.mem_cons.mp h with rfl | h
      · rfl
      · exact hot w h
  · rw [hE] at hx9
    cases hx9
end Ends
section Calls
variable {X : Cx} {own : String} {cc : ByteArray} {nL fr lc mc0 ms0 : Nat} {rt : Option FieldType} {o : Nat → Nat} {hn : Nat} {M M' : Mem} {G G' : Mel} {a b pc : Nat} {lo : List (Nat × Value)} {st st' rest : List Value}
variable {y : MethodName} {bytes : ByteArray} {maxL fr' lc' mc ms idx : Nat} {ret : Option FieldType} {As : List Value} {rv : Option Value} {E : String}
/-- the words of a virtual call -/
def VL (own : String) (idx : Nat) (y : MethodName) (bytes : ByteArray) (maxL : Nat) (ret : Option FieldType) : Prop := Cond.methodLink own idx y ∈ BG ∧ Cond.instanceMethod y ∈ BG ∧ Cond.selects y.cls y y ∈ BG ∧ Cond.initialized y.cls ∈ BG ∧ Cond.code y bytes maxL ret ∈ BG ∧ y.cls ≠ "java/lang/invoke/MethodHandle" ∧ y.cls ≠ "java/lang/invoke/VarHandle"
def SL (own : String) (idx : Nat) (y : MethodName) (bytes : ByteArray) (maxL : Nat) (ret : Option FieldType) : Prop := Cond.methodLink own idx y ∈ BG ∧ Cond.static y ∈ BG ∧ Cond.initialized y.cls ∈ BG ∧ Cond.code y bytes maxL ret ∈ BG ∧ y.cls ≠ "java/lang/invoke/MethodHandle" ∧ y.cls ≠ "java/lang/invoke/VarHandle" ∧ y.cls = own
theorem good_code (hc : Cond.code y bytes maxL ret ∈ BG) : GoodIn BG (Cond.code y bytes maxL ret :: BG) := by
  intro w hw
  rcases List.mem_cons.mp hw with rfl | hw
  · exact ⟨hc, BG_good _ hc⟩
  · exact ⟨hw, BG_good _ hw⟩
theorem good_V (h : VL own idx y bytes maxL ret) : GoodIn BG (wsV own idx y.cls y (Cond.code y bytes maxL ret :: BG)) := by
  obtain ⟨h1, h2, h3, h4, h5, -, -⟩ := h
  intro w hw
  rcases List.mem_append.mp hw with hw | hw
  · simp only [List.mem_cons, List.not_mem_nil, or_false] at hw
    rcases hw with rfl | rfl | rfl | rfl
    · exact ⟨h1, BG_good _ h1⟩
    · exact ⟨h2, BG_good _ h2⟩
    · exact ⟨h3, BG_good _ h3⟩
    · exact ⟨h4, BG_good _ h4⟩
  · exact good_code h5 w hw
theorem good_S (h : SL own idx y bytes maxL ret) : GoodIn BG (wsS own idx y (Cond.code y bytes maxL ret :: BG)) := by
  obtain ⟨h1, h2, h3, h5, -, -, h8⟩ := h
  intro w hw
  rcases List.mem_append.mp hw with hw | hw
  · simp only [List.mem_cons, List.not_mem_nil, or_false] at hw
    rcases hw with rfl | rfl | rfl
    · exact ⟨h1, BG_good _ h1⟩
    · exact ⟨h2, BG_good _ h2⟩
    · rw [← h8]; exact ⟨h3, BG_good _ h3⟩
  · exact good_code h5 w hw
/-- behind a call that returned -/
theorem q_ok {Y : Lx} {p : Program} {e : Env} {R : Room} {s : State} {m : MethodId} {args : Array Value} {below : List Frame} {meth : Method} {c : Code} {Q : State → Prop} {A : Nat → Prop} {H : Heap} {locs : List Loc} {ls : Array Slot} {av : Array Value} (hA : ∀ q : Nat, s.heap.size ≤ q → A q) (hw : HW Y.2.1 Y.2.2.1 A (Wd Y.2.2.2 o hn M G) s.heap H locs) (hl : lv_has ls nL lo)
    (hr : vx_Run p Y.1 e R s m args below meth c H locs a b mc ms (F0 m pc ls st) rest (QcM Y (va_A (Wd Y.2.2.2 o hn M G) H.size) o hn M' G' (.inl rv) av) (XcM Y (va_A (Wd Y.2.2.2 o hn M G) H.size) o hn M' G' (.inl rv)) (va_A (Wd Y.2.2.2 o hn M G) H.size)) (hst' : rv.toList ++ rest = st')
    (k : WM (Y, p, e, R, s, m, args, below, meth, c, Q, A) o hn M' G' (a + mc) (b + ms) (pc + 3) nL lo st') : W p Y.1 e R s m args below meth c H locs a b Q (F0 m pc ls st) := by
  have hf := va_freeAll hw.2.1 hw.2.2 hA
  subst hst'
  intro T hT Xs
  rcases hr T hT Xs with ⟨v, st₀, t, T', L, h0, X', hL, e1, e2, ⟨⟨rv', hrs, hoc⟩, hE, hF⟩, go⟩ | ⟨q, st₀, t, T', L, E, ce, h0, X', hL, e1, e2, ⟨hrs, -⟩, -⟩
  · cases hrs
    cases hoc
    obtain ⟨k1, k2, k3⟩ := vx_keep h0 e1 hw.2.2 (fun q _ h => hf q h) hf hL hF
    have hS' : va_S A s.heap T'.heap (locs ++ L) := k3
    obtain ⟨t2, a1, b1⟩ := k T'.heap (locs ++ L) ls ⟨by rw [e1]; exact hE.1, hE.2.2.weaken (fun _ q _ h => hf q.1 h), hS'⟩ hl T' rfl X'
    exact ⟨t2, go t2 a1, b1⟩
  · cases hrs
/-- behind a call that threw -/
theorem q_ex {Y : Lx} {p : Program} {e : Env} {R : Room} {s : State} {m : MethodId} {args : Array Value} {below : List Frame} {meth : Method} {c : Code} {Q : State → Prop} {A : Nat → Prop} {H : Heap} {locs : List Loc} {ls : Array Slot} {av : Array Value} (hA : ∀ q : Nat, s.heap.size ≤ q → A q) (hw : HW Y.2.1 Y.2.2.1 A (Wd Y.2.2.2 o hn M G) s.heap H locs) (hl : lv_has ls nL lo)
    (hr : vx_Run p Y.1 e R s m args below meth c H locs a b mc ms (F0 m pc ls st) rest (QcM Y (va_A (Wd Y.2.2.2 o hn M G) H.size) o hn M' G' (.inr E) av) (XcM Y (va_A (Wd Y.2.2.2 o hn M G) H.size) o hn M' G' (.inr E)) (va_A (Wd Y.2.2.2 o hn M G) H.size))
    (k : WX (Y, p, e, R, s, m, args, below, meth, c, Q, A) o hn M' G' (a + mc) (b + ms) pc nL lo rest E) : W p Y.1 e R s m args below meth c H locs a b Q (F0 m pc ls st) := by
  have hf := va_freeAll hw.2.1 hw.2.2 hA
  intro T hT Xs
  rcases hr T hT Xs with ⟨v, st₀, t, T', L, h0, X', hL, e1, e2, ⟨⟨rv', hrs, hoc⟩, hE, hF⟩, go⟩ | ⟨q, st₀, t, T', L, E', ce, h0, X', hL, e1, e2, ⟨hrs, hE, hF⟩, hce, hcv, hcl, go⟩
  · cases hrs
  · cases hrs
    obtain ⟨k1, k2, k3⟩ := vx_keep h0 e1 hw.2.2 (fun q _ h => hf q h) hf hL hF
    obtain ⟨t2, a1, b1⟩ := k T'.heap (locs ++ L) ls q ce ⟨by rw [e1]; exact hE.1, hE.2.2.weaken (fun _ q _ h => hf q.1 h), k3⟩ hl (by rw [e1]; exact hce) hcv hcl T' rfl X'
    exact ⟨t2, go.trans a1, b1⟩
theorem q_runV (hX : CxOK X own cc nL fr lc mc0 ms0 rt) {ci id n : Nat} {fs : List Value} {vc : vw_C} {rs : Rs} (hm : MI X.1 y bytes maxL ret fr' lc' mc ms (.ref (o id) :: As) o hn M G rs M' G') (hv : VL own idx y bytes maxL ret) (hk : id < 46 + 7 * hn) (he : ob X.1.2.2.2 o hn id (M id) (G id) = .inr (ci, fs)) (hc : vwCl[ci]? = some vc) (hvc : vc.1 = y.cls)
    (hn' : (parseMethodDescriptor y.desc).map (fun d => d.parameters.length) = some n) (hln : As.length = n) (hroom : fr' + 1 ≤ fr ∧ 8 + (maxL + 11) + lc' ≤ lc) (hcap : a + mc ≤ mc0 ∧ b + ms ≤ ms0) (hst : st = As.reverse ++ .ref (o id) :: rest) (hcat : (rest.map fun v => v.category).sum ≤ 8) (d : decode cc pc = .ok (.invokevirtual idx, 3)) :
    match X with
    | (Y, p, e, R, s, m, args, below, meth, c, Q, A) => ∀ (H : Heap) (locs : List Loc) (ls : Array Slot), HW Y.2.1 Y.2.2.1 A (Wd Y.2.2.2 o hn M G) s.heap H locs → lv_has ls nL lo → vx_Run p Y.1 e R s m args below meth c H locs a b mc ms (F0 m pc ls st) rest (QcM Y (va_A (Wd Y.2.2.2 o hn M G) H.size) o hn M' G' rs (Value.ref (o id) :: As).toArray) (XcM Y (va_A (Wd Y.2.2.2 o hn M G) H.size) o hn M' G' rs) (va_A (Wd Y.2.2.2 o hn M G) H.size) := by
  obtain ⟨⟨l, dC, dI, ac⟩, p, e, R, s, m, args, below, meth, c, Q, A⟩ := X
  obtain ⟨hRm, hx, hb, hml, hown, hts, hK, hA, hMF, hrt, hlk, htr⟩ := hX
  intro H locs ls hw hl
  subst hst
  exact vx_runV (As := As) (b := o id) (rest := rest) ⟨hx, hb, hml, hown, hts⟩ (hm htr H.size) (cwV n hts (good_V hv) rfl rfl rfl ⟨rfl, hv.2.2.2.2.2.1, hv.2.2.2.2.2.2, hn'⟩ (by rw [hRm]; exact hroom)) ⟨PreM.blind _ _ _ _ _ _ _, by rw [← hvc]; exact va_recv hK hw.1 hc (wd_at hk he), fun U hU hW => ⟨rfl, PreM.at (Y := (l, dC, dI, ac)) hw hK hA hMF hU hW⟩⟩ rfl hln hl.1 rfl (lv_room hcat) d (by rw [hRm]; exact hcap)
theorem q_runS (hX : CxOK X own cc nL fr lc mc0 ms0 rt) {n : Nat} {rs : Rs} (hm : MI X.1 y bytes maxL ret fr' lc' mc ms As o hn M G rs M' G') (hv : SL own idx y bytes maxL ret)
    (hn' : (parseMethodDescriptor y.desc).map (fun d => d.parameters.length) = some n) (hln : As.length = n) (hroom : fr' + 1 ≤ fr ∧ 8 + (maxL + 11) + lc' ≤ lc) (hcap : a + mc ≤ mc0 ∧ b + ms ≤ ms0) (hst : st = As.reverse ++ rest) (hcat : (rest.map fun v => v.category).sum ≤ 8) (d : decode cc pc = .ok (.invokestatic idx, 3)) :
    match X with
    | (Y, p, e, R, s, m, args, below, meth, c, Q, A) => ∀ (H : Heap) (locs : List Loc) (ls : Array Slot), HW Y.2.1 Y.2.2.1 A (Wd Y.2.2.2 o hn M G) s.heap H locs → lv_has ls nL lo → vx_Run p Y.1 e R s m args below meth c H locs a b mc ms (F0 m pc ls st) rest (QcM Y (va_A (Wd Y.2.2.2 o hn M G) H.size) o hn M' G' rs As.toArray) (XcM Y (va_A (Wd Y.2.2.2 o hn M G) H.size) o hn M' G' rs) (va_A (Wd Y.2.2.2 o hn M G) H.size) := by
  obtain ⟨⟨l, dC, dI, ac⟩, p, e, R, s, m, args, below, meth, c, Q, A⟩ := X
  obtain ⟨hRm, hx, hb, hml, hown, hts, hK, hA, hMF, hrt, hlk, htr⟩ := hX
  intro H locs ls hw hl
  subst hst
  exact vx_runS (As := As) (rest := rest) ⟨hx, hb, hml, hown, hts⟩ (hm htr H.size) (cwS n hts (good_S hv) rfl rfl rfl ⟨hv.2.2.2.2.2.2, hv.2.2.2.2.1, hv.2.2.2.2.2.1, hn'⟩ (by rw [hRm]; exact hroom)) ⟨PreM.blind _ _ _ _ _ _ _, fun U hU hW => ⟨rfl, PreM.at (Y := (l, dC, dI, ac)) hw hK hA hMF hU hW⟩⟩ rfl hln hl.1 rfl (lv_room hcat) d (by rw [hRm]; exact hcap)
theorem q_callV (hX : CxOK X own cc nL fr lc mc0 ms0 rt) {ci id n : Nat} {fs : List Value} {vc : vw_C} (hm : MI X.1 y bytes maxL ret fr' lc' mc ms (.ref (o id) :: As) o hn M G (.inl rv) M' G') (hv : VL own idx y bytes maxL ret) (hk : id < 46 + 7 * hn) (he : ob X.1.2.2.2 o hn id (M id) (G id) = .inr (ci, fs)) (hc : vwCl[ci]? = some vc) (hvc : vc.1 = y.cls)
    (hn' : (parseMethodDescriptor y.desc).map (fun d => d.parameters.length) = some n) (hln : As.length = n) (hroom : fr' + 1 ≤ fr ∧ 8 + (maxL + 11) + lc' ≤ lc) (hcap : a + mc ≤ mc0 ∧ b + ms ≤ ms0) (hst : st = As.reverse ++ .ref (o id) :: rest) (hcat : (rest.map fun v => v.category).sum ≤ 8) (hst' : rv.toList ++ rest = st') (d : decode cc pc = .ok (.invokevirtual idx, 3))
    (k : WM X o hn M' G' (a + mc) (b + ms) (pc + 3) nL lo st') : WM X o hn M G a b pc nL lo st := by
  have hr := q_runV hX (lo := lo) hm hv hk he hc hvc hn' hln hroom hcap hst hcat d
  obtain ⟨⟨l, dC, dI, ac⟩, p, e, R, s, m, args, below, meth, c, Q, A⟩ := X
  obtain ⟨hRm, hx, hb, hml, hown, hts, hK, hA, hMF, hrt, hlk, htr⟩ := hX
  intro H locs ls hw hl
  exact q_ok (Y := (l, dC, dI, ac)) hA hw hl (hr H locs ls hw hl) hst' k
theorem q_callS (hX : CxOK X own cc nL fr lc mc0 ms0 rt) {n : Nat} (hm : MI X.1 y bytes maxL ret fr' lc' mc ms As o hn M G (.inl rv) M' G') (hv : SL own idx y bytes maxL ret)
    (hn' : (parseMethodDescriptor y.desc).map (fun d => d.parameters.length) = some n) (hln : As.length = n) (hroom : fr' + 1 ≤ fr ∧ 8 + (maxL + 11) + lc' ≤ lc) (hcap : a + mc ≤ mc0 ∧ b + ms ≤ ms0) (hst : st = As.reverse ++ rest) (hcat : (rest.map fun v => v.category).sum ≤ 8) (hst' : rv.toList ++ rest = st') (d : decode cc pc = .ok (.invokestatic idx, 3))
    (k : WM X o hn M' G' (a + mc) (b + ms) (pc + 3) nL lo st') : WM X o hn M G a b pc nL lo st := by
  have hr := q_runS hX (lo := lo) hm hv hn' hln hroom hcap hst hcat d
  obtain ⟨⟨l, dC, dI, ac⟩, p, e, R, s, m, args, below, meth, c, Q, A⟩ := X
  obtain ⟨hRm, hx, hb, hml, hown, hts, hK, hA, hMF, hrt, hlk, htr⟩ := hX
  intro H locs ls hw hl
  exact q_ok (Y := (l, dC, dI, ac)) hA hw hl (hr H locs ls hw hl) hst' k
theorem q_callVx (hX : CxOK X own cc nL fr lc mc0 ms0 rt) {ci id n : Nat} {fs : List Value} {vc : vw_C} (hm : MI X.1 y bytes maxL ret fr' lc' mc ms (.ref (o id) :: As) o hn M G (.inr E) M' G') (hv : VL own idx y bytes maxL ret) (hk : id < 46 + 7 * hn) (he : ob X.1.2.2.2 o hn id (M id) (G id) = .inr (ci, fs)) (hc : vwCl[ci]? = some vc) (hvc : vc.1 = y.cls)
    (hn' : (parseMethodDescriptor y.desc).map (fun d => d.parameters.length) = some n) (hln : As.length = n) (hroom : fr' + 1 ≤ fr ∧ 8 + (maxL + 11) + lc' ≤ lc) (hcap : a + mc ≤ mc0 ∧ b + ms ≤ ms0) (hst : st = As.reverse ++ .ref (o id) :: rest) (hcat : (rest.map fun v => v.category).sum ≤ 8) (d : decode cc pc = .ok (.invokevirtual idx, 3))
    (k : WX X o hn M' G' (a + mc) (b + ms) pc nL lo rest E) : WM X o hn M G a b pc nL lo st := by
  have hr := q_runV hX (lo := lo) hm hv hk he hc hvc hn' hln hroom hcap hst hcat d
  obtain ⟨⟨l, dC, dI, ac⟩, p, e, R, s, m, args, below, meth, c, Q, A⟩ := X
  obtain ⟨hRm, hx, hb, hml, hown, hts, hK, hA, hMF, hrt, hlk, htr⟩ := hX
  intro H locs ls hw hl
  exact q_ex (Y := (l, dC, dI, ac)) hA hw hl (hr H locs ls hw hl) k
theorem q_callSx (hX : CxOK X own cc nL fr lc mc0 ms0 rt) {n : Nat} (hm : MI X.1 y bytes maxL ret fr' lc' mc ms As o hn M G (.inr E) M' G') (hv : SL own idx y bytes maxL ret)
    (hn' : (parseMethodDescriptor y.desc).map (fun d => d.parameters.length) = some n) (hln : As.length = n) (hroom : fr' + 1 ≤ fr ∧ 8 + (maxL + 11) + lc' ≤ lc) (hcap : a + mc ≤ mc0 ∧ b + ms ≤ ms0) (hst : st = As.reverse ++ rest) (hcat : (rest.map fun v => v.category).sum ≤ 8) (d : decode cc pc = .ok (.invokestatic idx, 3))
    (k : WX X o hn M' G' (a + mc) (b + ms) pc nL lo rest E) : WM X o hn M G a b pc nL lo st := by
  have hr := q_runS hX (lo := lo) hm hv hn' hln hroom hcap hst hcat d
  obtain ⟨⟨l, dC, dI, ac⟩, p, e, R, s, m, args, below, meth, c, Q, A⟩ := X
  obtain ⟨hRm, hx, hb, hml, hown, hts, hK, hA, hMF, hrt, hlk, htr⟩ := hX
  intro H locs ls hw hl
  exact q_ex (Y := (l, dC, dI, ac)) hA hw hl (hr H locs ls hw hl) k
/-- a private static method of the nest's host -/
theorem q_callSN (hX : CxOK X own cc nL fr lc mc0 ms0 rt) {n : Nat} {host : String} (hm : MI X.1 y bytes maxL ret fr' lc' mc ms As o hn M G (.inl rv) M' G') (hlk : Cond.methodLinkNest own idx y host ∈ lw_tbl) (hsta : Cond.static y ∈ BG) (hini : Cond.initialized y.cls ∈ BG) (hco : Cond.code y bytes maxL ret ∈ BG) (hcls : y.cls ≠ "java/lang/invoke/MethodHandle" ∧ y.cls ≠ "java/lang/invoke/VarHandle")
    (hn' : (parseMethodDescriptor y.desc).map (fun d => d.parameters.length) = some n) (hln : As.length = n) (hroom : fr' + 1 ≤ fr ∧ 8 + (maxL + 11) + lc' ≤ lc) (hcap : a + mc ≤ mc0 ∧ b + ms ≤ ms0) (hst : st = As.reverse ++ rest) (hcat : (rest.map fun v => v.category).sum ≤ 8) (hst' : rv.toList ++ rest = st') (d : decode cc pc = .ok (.invokestatic idx, 3))
    (k : WM X o hn M' G' (a + mc) (b + ms) (pc + 3) nL lo st') : WM X o hn M G a b pc nL lo st := by
  obtain ⟨⟨l, dC, dI, ac⟩, p, e, R, s, m, args, below, meth, c, Q, A⟩ := X
  obtain ⟨hRm, hx, hb, hml, hown, hts, hK, hA, hMF, hrt, hlk2, htr⟩ := hX
  intro H locs ls hw hl
  subst hst
  have hr : vx_Run p l e R s m args below meth c H locs a b mc ms (F0 m pc ls (As.reverse ++ rest)) rest (QcM (l, dC, dI, ac) (va_A (Wd ac o hn M G) H.size) o hn M' G' (.inl rv) As.toArray) (XcM (l, dC, dI, ac) (va_A (Wd ac o hn M G) H.size) o hn M' G' (.inl rv)) (va_A (Wd ac o hn M G) H.size) := vx_runSN (As := As) (rest := rest) ⟨hx, hb, hml, hown, hts⟩ (hm htr H.size) ⟨va_cnB n hts (good_code hco) rfl rfl rfl (hMF.1 _ hlk rfl) (hts _ hini) ⟨hcls.1, hcls.2, hn'⟩ (by rw [hRm]; exact hroom), hts _ hsta, trivial⟩ ⟨PreM.blind _ _ _ _ _ _ _, fun U hU hW => ⟨rfl, PreM.at (Y := (l, dC, dI, ac)) hw hK hA hMF hU hW⟩⟩ rfl hln hl.1 rfl (lv_room hcat) d (by rw [hRm]; exact hcap)
  exact q_ok (Y := (l, dC, dI, ac)) hA hw hl hr hst' k
end Calls
end
section
/-! words of the meaning of methods, and their rows -/
def bnd {α β : Type} (a : α) (f : α → β) : β := f a
theorem bnd_nm {α β : Type} {e v : α} {f : α → β} {r : β} (hv : v = e) (h : bnd e f = r) : f v = r := by subst hv; exact h
theorem bnd_ob {α β : Type} {e : α} {f : α → β} {r : β} (h : bnd e f = r) : ∃ v, v = e ∧ f v = r := ⟨e, rfl, h⟩
theorem ob_bind {α β : Type} {x : Option α} {f : α → Option β} {r : β} (h : x.bind f = some r) : ∃ v, x = some v ∧ f v = some r := by
  cases x with
  | none => cases h
  | some v => exact ⟨v, rfl, h⟩
def mrd (n : Nat) (f : Nat → Int32) (i : Int32) : Option Int32 := if i < 0 ∨ n ≤ i.toNatClampNeg then none else some (f i.toNatClampNeg)
def mrdL (n : Nat) (f : Nat → Int64) (i : Int32) : Option Int64 := if i < 0 ∨ n ≤ i.toNatClampNeg then none else some (f i.toNatClampNeg)
def mwr (n : Nat) (M : Mem) (k : Nat) (i v : Int32) : Option Mem := if i < 0 ∨ n ≤ i.toNatClampNeg then none else some (mst M k i.toNatClampNeg v)
def mwrL (n : Nat) (G : Mel) (k : Nat) (i : Int32) (v : Int64) : Option Mel := if i < 0 ∨ n ≤ i.toNatClampNeg then none else some (mstL G k i.toNatClampNeg v)
def mrs (hn : Nat) (i : Int32) : Option Nat := if (i < 0 ∨ 6 ≤ i.toNatClampNeg) ∨ hn ≤ i.toNatClampNeg then none else some (46 + 7 * i.toNatClampNeg)
def bchk (v : Int32) : Option Int32 := if v = 0 ∨ v = 1 then some v else none
theorem mrd_ok {n : Nat} {f : Nat → Int32} {i v : Int32} (h : mrd n f i = some v) : vp_in i n ∧ f i.toNatClampNeg = v := by
  unfold mrd at h
  split at h
  · cases h
  · next c => exact ⟨c, Option.some.inj h⟩
theorem mrdL_ok {n : Nat} {f : Nat → Int64} {i : Int32} {v : Int64} (h : mrdL n f i = some v) : vp_in i n ∧ f i.toNatClampNeg = v := by
  unfold mrdL at h
  split at h
  · cases h
  · next c => exact ⟨c, Option.some.inj h⟩
theorem mwr_ok {n : Nat} {M M' : Mem} {k : Nat} {i v : Int32} (h : mwr n M k i v = some M') : vp_in i n ∧ mst M k i.toNatClampNeg v = M' := by
  unfold mwr at h
  split at h
  · cases h
  · next c => exact ⟨c, Option.some.inj h⟩
theorem mwrL_ok {n : Nat} {G G' : Mel} {k : Nat} {i : Int32} {v : Int64} (h : mwrL n G k i v = some G') : vp_in i n ∧ mstL G k i.toNatClampNeg v = G' := by
  unfold mwrL at h
  split at h
  · cases h
  · next c => exact ⟨c, Option.some.inj h⟩
theorem mrs_ok {hn : Nat} {i : Int32} {e : Nat} (h : mrs hn i = some e) : vp_in i 6 ∧ i.toNatClampNeg < hn ∧ 46 + 7 * i.toNatClampNeg = e := by
  unfold mrs at h
  split at h
  · cases h
  · next c =>
    have c1 : ¬ (i < 0 ∨ 6 ≤ i.toNatClampNeg) := fun z => c (Or.inl z)
    have c2 : ¬ hn ≤ i.toNatClampNeg := fun z => c (Or.inr z)
    exact ⟨c1, by omega, Option.some.inj h⟩
theorem mrs_em {hn : Nat} {i : Int32} {e : Nat} (h : mrs hn i = some e) : em hn e := by
  obtain ⟨-, h1, rfl⟩ := mrs_ok h
  exact em_i h1
theorem bchk_ok {v w : Int32} (h : bchk v = some w) : v = w ∧ (w = 0 ∨ w = 1) := by
  unfold bchk at h
  split at h
  · next c => cases h; exact ⟨rfl, c⟩
  · cases h
/-- what a code of a throw means: 0 none -/
def exn (k : Nat) : String := if k = 1 then eIAE else if k = 2 then eISE else if k = 3 then eIOB else eNSE
def rsOf (k : Nat) (rv : Option Value) : Rs := if k = 0 then .inl rv else .inr (exn k)
theorem rsOf_0 {k : Nat} {rv : Option Value} (h : k = 0) : rsOf k rv = .inl rv := if_pos h
theorem rsOf_x {k : Nat} {rv : Option Value} (h : ¬ k = 0) : rsOf k rv = .inr (exn k) := if_neg h
theorem MI_0 {Y : Lx} {y : MethodName} {bytes : ByteArray} {maxL : Nat} {ret : Option FieldType} {fr lc mc ms : Nat} {av : List Value} {o : Nat → Nat} {hn : Nat} {M M' : Mem} {G G' : Mel} {k : Nat} {rv : Option Value} (hk : k = 0) (h : MI Y y bytes maxL ret fr lc mc ms av o hn M G (rsOf k rv) M' G') : MI Y y bytes maxL ret fr lc mc ms av o hn M G (.inl rv) M' G' := by rwa [rsOf_0 hk] at h
theorem MI_x {Y : Lx} {y : MethodName} {bytes : ByteArray} {maxL : Nat} {ret : Option FieldType} {fr lc mc ms : Nat} {av : List Value} {o : Nat → Nat} {hn : Nat} {M M' : Mem} {G G' : Mel} {k : Nat} {rv : Option Value} (hk : ¬ k = 0) (h : MI Y y bytes maxL ret fr lc mc ms av o hn M G (rsOf k rv) M' G') : MI Y y bytes maxL ret fr lc mc ms av o hn M G (.inr (exn k)) M' G' := by rwa [rsOf_x hk] at h
theorem CxR_x {X : Cx} {mc ms : Nat} {o : Nat → Nat} {hn : Nat} {M : Mem} {G : Mel} {k : Nat} {rv : Option Value} (hk : ¬ k = 0) (h : CxR X mc ms o hn M G (rsOf k rv)) : CxR X mc ms o hn M G (.inr (exn k)) := by rwa [rsOf_x hk] at h
/-- how many turns a loop is given -/
def FU : Nat := 20000
/-- an array of the model of n ints -/
def arr (q n : Nat) : Prop := q < 46 ∧ ∀ (ac : Nat → ClassId) (o : Nat → Nat) (hn : Nat) (f : Nat → Int32) (g : Nat → Int64), ob ac o hn q f g = .inl (ac 0, n, .inl f)
theorem lt46 {k hn : Nat} (h : k < 46) : k < 46 + 7 * hn := by omega
theorem tb_lt {t hn : Nat} (h : tb hn t) : t < 46 + 7 * hn := Nat.lt_of_succ_lt h.2
theorem em_lt {t hn : Nat} (h : em hn t) : t < 46 + 7 * hn := h.2.2
section Rows2
variable {X : Cx} {own : String} {cc : ByteArray} {nL fr lc mc ms : Nat} {rt : Option FieldType} {o : Nat → Nat} {hn : Nat} {M : Mem} {G : Mel} {a b pc : Nat} {lo : List (Nat × Value)} {st : List Value}
theorem q_lo {lo' : List (Nat × Value)} (ks : List Nat) (h : lv_pick lo ks = lo') (k : WM X o hn M G a b pc nL lo' st) : WM X o hn M G a b pc nL lo st := by
  obtain ⟨⟨l, dC, dI, ac⟩, p, e, R, s, m, args, below, meth, c, Q, A⟩ := X
  intro H locs ls hw hl
  exact k H locs ls hw (lv_sub hl ks h)
theorem q_nm {x : Int32} (k : ∀ y : Int32, y = x → WM X o hn M G a b pc nL lo (.int y :: st)) : WM X o hn M G a b pc nL lo (.int x :: st) := k x rfl
theorem q_astore (hX : CxOK X own cc nL fr lc mc ms rt) {i x : Nat} {lo' : List (Nat × Value)} (ks : List Nat) (hn' : i < nL) (hl' : lv_pick ((i, Value.ref x) :: lo.filter (fun q => !(q.1 == i) && !(q.1 + 1 == i && q.2.category == 2))) ks = lo') (d : decode cc pc = .ok (.astore i, 2)) (k : WM X o hn M G a b (pc + 2) nL lo' st) : WM X o hn M G a b pc nL lo (.ref x :: st) := by
  obtain ⟨⟨l, dC, dI, ac⟩, p, e, R, s, m, args, below, meth, c, Q, A⟩ := X
  obtain ⟨hR, hx, hb, hml, hown, hts, hK, hA, hMF, hrt, hlk, htr⟩ := hX
  intro H locs ls hw hl
  exact lv_astore hx hb d hl hn' rfl (fun ls2 hl2 => k H locs ls2 hw (lv_sub hl2 ks hl'))
theorem r_iald (hX : CxOK X own cc nL fr lc mc ms rt) {id n : Nat} {i v : Int32} (hk : id < 46 + 7 * hn) (he : ∀ f g, ob X.1.2.2.2 o hn id f g = .inl (X.1.2.2.2 0, n, .inl f)) (hW : mrd n (M id) i = some v) (d : decode cc pc = .ok (.iaload, 1)) (k : WM X o hn M G a b (pc + 1) nL lo (.int v :: st)) : WM X o hn M G a b pc nL lo (.int i :: .ref (o id) :: st) := by
  obtain ⟨h1, rfl⟩ := mrd_ok hW
  exact q_iald hX hk (he _ _) h1 d k
theorem r_zald (hX : CxOK X own cc nL fr lc mc ms rt) {id n : Nat} {i v : Int32} (hk : id < 46 + 7 * hn) (he : ∀ f g, ob X.1.2.2.2 o hn id f g = .inl (X.1.2.2.2 2, n, .inl f)) (hW : mrd n (M id) i = some v) (d : decode cc pc = .ok (.baload, 1)) (k : WM X o hn M G a b (pc + 1) nL lo (.int v :: st)) : WM X o hn M G a b pc nL lo (.int i :: .ref (o id) :: st) := by
  obtain ⟨h1, rfl⟩ := mrd_ok hW
  exact q_zald hX hk (he _ _) h1 d k
theorem r_lald (hX : CxOK X own cc nL fr lc mc ms rt) {id n : Nat} {i : Int32} {v : Int64} (hk : id < 46 + 7 * hn) (he : ∀ f g, ob X.1.2.2.2 o hn id f g = .inl (X.1.2.2.2 1, n, .inr (.inl g))) (hW : mrdL n (G id) i = some v) (d : decode cc pc = .ok (.laload, 1)) (k : WM X o hn M G a b (pc + 1) nL lo (.long v :: st)) : WM X o hn M G a b pc nL lo (.int i :: .ref (o id) :: st) := by
  obtain ⟨h1, rfl⟩ := mrdL_ok hW
  exact q_lald hX hk (he _ _) h1 d k
theorem r_iast (hX : CxOK X own cc nL fr lc mc ms rt) {id n : Nat} {i x : Int32} {M' : Mem} (hk : id < 46 + 7 * hn) (he : ∀ f g, ob X.1.2.2.2 o hn id f g = .inl (X.1.2.2.2 0, n, .inl f)) (hW : mwr n M id i x = some M') (d : decode cc pc = .ok (.iastore, 1)) (k : WM X o hn M' G a b (pc + 1) nL lo st) : WM X o hn M G a b pc nL lo (.int x :: .int i :: .ref (o id) :: st) := by
  obtain ⟨h1, rfl⟩ := mwr_ok hW
  exact q_iast hX hk he h1 d k
theorem r_zast (hX : CxOK X own cc nL fr lc mc ms rt) {id n : Nat} {i x : Int32} {M' : Mem} (hk : id < 46 + 7 * hn) (he : ∀ f g, ob X.1.2.2.2 o hn id f g = .inl (X.1.2.2.2 2, n, .inl f)) (hW : mwr n M id i (vp_nar .boolean x) = some M') (d : decode cc pc = .ok (.bastore, 1)) (k : WM X o hn M' G a b (pc + 1) nL lo st) : WM X o hn M G a b pc nL lo (.int x :: .int i :: .ref (o id) :: st) := by
  obtain ⟨h1, rfl⟩ := mwr_ok hW
  exact q_zast hX hk he h1 d k
theorem r_last (hX : CxOK X own cc nL fr lc mc ms rt) {id n : Nat} {i : Int32} {x : Int64} {G' : Mel} (hk : id < 46 + 7 * hn) (he : ∀ f g, ob X.1.2.2.2 o hn id f g = .inl (X.1.2.2.2 1, n, .inr (.inl g))) (hW : mwrL n G id i x = some G') (d : decode cc pc = .ok (.lastore, 1)) (k : WM X o hn M G' a b (pc + 1) nL lo st) : WM X o hn M G a b pc nL lo (.long x :: .int i :: .ref (o id) :: st) := by
  obtain ⟨h1, rfl⟩ := mwrL_ok hW
  exact q_last hX hk he h1 d k
theorem r_aald (hX : CxOK X own cc nL fr lc mc ms rt) {i : Int32} {e : Nat} (hW : mrs hn i = some e) (d : decode cc pc = .ok (.aaload, 1)) (k : WM X o hn M G a b (pc + 1) nL lo (.ref (o e) :: st)) : WM X o hn M G a b pc nL lo (.int i :: .ref (o 29) :: st) := by
  obtain ⟨h1, h2, rfl⟩ := mrs_ok hW
  exact q_aald hX h1 h2 d k
theorem r_alen (hX : CxOK X own cc nL fr lc mc ms rt) {id n : Nat} (v : Int32) (hk : id < 46 + 7 * hn) (he : ∀ f g, ob X.1.2.2.2 o hn id f g = .inl (X.1.2.2.2 0, n, .inl f)) (hv : nI n = v) (d : decode cc pc = .ok (.arraylength, 1)) (k : WM X o hn M G a b (pc + 1) nL lo (.int v :: st)) : WM X o hn M G a b pc nL lo (.ref (o id) :: st) := by
  exact q_alen hX (t := 0) (x := (n, .inl (M id))) v hk (he _ _) rfl hv d k
theorem r_alenS (hX : CxOK X own cc nL fr lc mc ms rt) (d : decode cc pc = .ok (.arraylength, 1)) (k : WM X o hn M G a b (pc + 1) nL lo (.int 6 :: st)) : WM X o hn M G a b pc nL lo (.ref (o 29) :: st) := by
  exact q_alen hX (t := 3) (id := 29) (x := (6, .inr (.inr (.inr (.inr (fun j => if j < hn then some (o (46 + 7 * j)) else none)))))) 6 (by omega) rfl rfl rfl d k
theorem r_min (hX : CxOK X own cc nL fr lc mc ms rt) {x y : Int32} {idx : Nat} (hl : Cond.methodLink own idx Lib.Math.min.name ∈ BG) (hs : Cond.static Lib.Math.min.name ∈ BG) (hi : Cond.initialized "java/lang/Math" ∈ BG) (hc : Cond.code Lib.Math.min.name Lib.Math.min.code 2 (some .int) ∈ BG) (h1 : 1 ≤ fr) (h2 : (st.map fun v => v.category).sum + 13 ≤ lc) (h3 : a ≤ mc) (h4 : b ≤ ms) (d : decode cc pc = .ok (.invokestatic idx, 3)) (k : WM X o hn M G a b (pc + 3) nL lo (.int (if y < x then y else x) :: st)) : WM X o hn M G a b pc nL lo (.int y :: .int x :: st) := by
  obtain ⟨⟨l, dC, dI, ac⟩, p, e, R, s, m, args, below, meth, c, Q, A⟩ := X
  obtain ⟨hR, hx, hb, hml, hown, hts, hK, hA, hMF, hrt, hlk, htr⟩ := hX
  intro H locs ls hw hl2
  exact va_mmin hx hb (by rw [hml, hl2.1]) hown (hts _ hl) (hts _ hs) (hts _ hi) (hts _ hc) (by rw [hR]; exact h1) (by rw [hR]; exact h2) (by rw [hR]; exact h3) (by rw [hR]; exact h4) d (k H locs ls hw hl2)
theorem r_max (hX : CxOK X own cc nL fr lc mc ms rt) {x y : Int32} {idx : Nat} (hl : Cond.methodLink own idx Lib.Math.max.name ∈ BG) (hs : Cond.static Lib.Math.max.name ∈ BG) (hi : Cond.initialized "java/lang/Math" ∈ BG) (hc : Cond.code Lib.Math.max.name Lib.Math.max.code 2 (some .int) ∈ BG) (h1 : 1 ≤ fr) (h2 : (st.map fun v => v.category).sum + 13 ≤ lc) (h3 : a ≤ mc) (h4 : b ≤ ms) (d : decode cc pc = .ok (.invokestatic idx, 3)) (k : WM X o hn M G a b (pc + 3) nL lo (.int (if x < y then y else x) :: st)) : WM X o hn M G a b pc nL lo (.int y :: .int x :: st) := by
  obtain ⟨⟨l, dC, dI, ac⟩, p, e, R, s, m, args, below, meth, c, Q, A⟩ := X
  obtain ⟨hR, hx, hb, hml, hown, hts, hK, hA, hMF, hrt, hlk, htr⟩ := hX
  intro H locs ls hw hl2
  exact va_mmax hx hb (by rw [hml, hl2.1]) hown (hts _ hl) (hts _ hs) (hts _ hi) (hts _ hc) (by rw [hR]; exact h1) (by rw [hR]; exact h2) (by rw [hR]; exact h3) (by rw [hR]; exact h4) d (k H locs ls hw hl2)
theorem mst_off {M M1 : Mem} {k j : Nat} {v : Int32} (h : M1 = mst M k j v) : ∀ q, q ≠ k → M1 q = M q := by subst h; exact fun q hq => mst_ne M j v hq
theorem mstL_off {G G1 : Mel} {k j : Nat} {v : Int64} (h : G1 = mstL G k j v) : ∀ q, q ≠ k → G1 q = G q := by subst h; exact fun q hq => mstL_ne G j v hq
theorem mst_on {M M1 : Mem} {k j : Nat} {v : Int32} (h : M1 = mst M k j v) : M1 k = upd (M k) j v := by subst h; exact mst_self M k j v
theorem mstL_on {G G1 : Mel} {k j : Nat} {v : Int64} (h : G1 = mstL G k j v) : G1 k = vp_updL (G k) j v := by subst h; exact mstL_self G k j v
theorem pu_T_rows (hX : CxOK X own cc nL fr lc mc ms rt) {t : Nat} (ht : tb hn t) {index : Nat} {v : Int32} {M1 : Mem} (hM : M1 = mst M t 2 v) (hfl : FL own index (TX4 2).1 (TX4 2).2.1 (TX4 2).2.2.1) (d : decode cc pc = .ok (.putfield index, 3)) (k : WM X o hn M1 G a b (pc + 3) nL lo st) : WM X o hn M G a b pc nL lo (.int v :: .ref (o t) :: st) := by
  have hon := mst_on hM
  refine q_put hX (id := t) (ci := 4) (N := 3) (T := TX4) (C := RX4) (ty := .int) (ty0 := tyX4) 2 (tb_lt ht) (ob_T ht.1 _ _) (by rw [hon]; exact (ob_T ht.1 _ _)) (mst_off hM) (fun _ _ => rfl) rfl in_X4 tyX4_ok nmX4 (by decide) hfl rfl (by decide +kernel) rfl rfl (by show _ < _; simp) d k
theorem pu_E_wage (hX : CxOK X own cc nL fr lc mc ms rt) {t : Nat} (ht : em hn t) {index : Nat} {v : Int32} {M1 : Mem} (hM : M1 = mst M t 0 v) (hfl : FL own index (TX0 0).1 (TX0 0).2.1 (TX0 0).2.2.1) (d : decode cc pc = .ok (.putfield index, 3)) (k : WM X o hn M1 G a b (pc + 3) nL lo st) : WM X o hn M G a b pc nL lo (.int v :: .ref (o t) :: st) := by
  have hon := mst_on hM
  refine q_put hX (id := t) (ci := 0) (N := 6) (T := TX0) (C := RX0) (ty := .int) (ty0 := tyX0) 0 (em_lt ht) (ob_E ht _ _) (by rw [hon]; exact (ob_E ht _ _)) (mst_off hM) (fun _ _ => rfl) rfl in_X0 tyX0_ok nmX0 (by decide) hfl rfl (by decide +kernel) rfl rfl (by show _ < _; simp) d k
theorem pu_E_weeks (hX : CxOK X own cc nL fr lc mc ms rt) {t : Nat} (ht : em hn t) {index : Nat} {v : Int32} {M1 : Mem} (hM : M1 = mst M t 1 v) (hfl : FL own index (TX0 1).1 (TX0 1).2.1 (TX0 1).2.2.1) (d : decode cc pc = .ok (.putfield index, 3)) (k : WM X o hn M1 G a b (pc + 3) nL lo st) : WM X o hn M G a b pc nL lo (.int v :: .ref (o t) :: st) := by
  have hon := mst_on hM
  refine q_put hX (id := t) (ci := 0) (N := 6) (T := TX0) (C := RX0) (ty := .int) (ty0 := tyX0) 1 (em_lt ht) (ob_E ht _ _) (by rw [hon]; exact (ob_E ht _ _)) (mst_off hM) (fun _ _ => rfl) rfl in_X0 tyX0_ok nmX0 (by decide) hfl rfl (by decide +kernel) rfl rfl (by show _ < _; simp) d k
theorem pu_L_cov (hX : CxOK X own cc nL fr lc mc ms rt) {index : Nat} {v : Int32} {M1 : Mem} (hM : M1 = mst M 38 3 v) (hfl : FL own index (TX5 3).1 (TX5 3).2.1 (TX5 3).2.2.1) (d : decode cc pc = .ok (.putfield index, 3)) (k : WM X o hn M1 G a b (pc + 3) nL lo st) : WM X o hn M G a b pc nL lo (.int v :: .ref (o 38) :: st) := by
  have hon := mst_on hM
  refine q_put hX (id := 38) (ci := 5) (N := 4) (T := TX5) (C := RX5) (ty := .int) (ty0 := tyX5) 3 (lt46 (by decide)) rfl (by rw [hon]; exact rfl) (mst_off hM) (fun _ _ => rfl) rfl in_X5 tyX5_ok nmX5 (by decide) hfl rfl (by decide +kernel) rfl rfl (by show _ < _; simp) d k
theorem pu_S_rep (hX : CxOK X own cc nL fr lc mc ms rt) {index : Nat} {v : Int32} {M1 : Mem} (hM : M1 = mst M 43 1 v) (hfl : FL own index (TX3 1).1 (TX3 1).2.1 (TX3 1).2.2.1) (d : decode cc pc = .ok (.putfield index, 3)) (k : WM X o hn M1 G a b (pc + 3) nL lo st) : WM X o hn M G a b pc nL lo (.int v :: .ref (o 43) :: st) := by
  have hon := mst_on hM
  refine q_put hX (id := 43) (ci := 3) (N := 2) (T := TX3) (C := RX3) (ty := .int) (ty0 := tyX3) 1 (lt46 (by decide)) rfl (by rw [hon]; exact rfl) (mst_off hM) (fun _ _ => rfl) rfl in_X3 tyX3_ok nmX3 (by decide) hfl rfl (by decide +kernel) rfl rfl (by show _ < _; simp) d k
theorem pu_M_thrown (hX : CxOK X own cc nL fr lc mc ms rt) {index : Nat} {v : Int32} {M1 : Mem} (hM : M1 = mst M 1 0 v) (hfl : FL own index (TX7 0).1 (TX7 0).2.1 (TX7 0).2.2.1) (d : decode cc pc = .ok (.putfield index, 3)) (k : WM X o hn M1 G a b (pc + 3) nL lo st) : WM X o hn M G a b pc nL lo (.int v :: .ref (o 1) :: st) := by
  have hon := mst_on hM
  refine q_put hX (id := 1) (ci := 7) (N := 34) (T := TX7) (C := RX7) (ty := .int) (ty0 := tyX7) 0 (lt46 (by decide)) rfl (by rw [hon]; exact rfl) (mst_off hM) (fun _ _ => rfl) rfl in_X7 tyX7_ok nmX7 (by decide) hfl rfl (by decide +kernel) rfl rfl (by show _ < _; simp) d k
theorem pu_M_many (hX : CxOK X own cc nL fr lc mc ms rt) {index : Nat} {v : Int32} {M1 : Mem} (hM : M1 = mst M 1 1 v) (hfl : FL own index (TX7 1).1 (TX7 1).2.1 (TX7 1).2.2.1) (d : decode cc pc = .ok (.putfield index, 3)) (k : WM X o hn M1 G a b (pc + 3) nL lo st) : WM X o hn M G a b pc nL lo (.int v :: .ref (o 1) :: st) := by
  have hon := mst_on hM
  refine q_put hX (id := 1) (ci := 7) (N := 34) (T := TX7) (C := RX7) (ty := .int) (ty0 := tyX7) 1 (lt46 (by decide)) rfl (by rw [hon]; exact rfl) (mst_off hM) (fun _ _ => rfl) rfl in_X7 tyX7_ok nmX7 (by decide) hfl rfl (by decide +kernel) rfl rfl (by show _ < _; simp) d k
theorem pu_M_rateMany (hX : CxOK X own cc nL fr lc mc ms rt) {index : Nat} {v : Int32} {M1 : Mem} (hM : M1 = mst M 1 14 v) (hfl : FL own index (TX7 14).1 (TX7 14).2.1 (TX7 14).2.2.1) (d : decode cc pc = .ok (.putfield index, 3)) (k : WM X o hn M1 G a b (pc + 3) nL lo st) : WM X o hn M G a b pc nL lo (.int v :: .ref (o 1) :: st) := by
  have hon := mst_on hM
  refine q_put hX (id := 1) (ci := 7) (N := 34) (T := TX7) (C := RX7) (ty := .int) (ty0 := tyX7) 14 (lt46 (by decide)) rfl (by rw [hon]; exact rfl) (mst_off hM) (fun _ _ => rfl) rfl in_X7 tyX7_ok nmX7 (by decide) hfl rfl (by decide +kernel) rfl rfl (by show _ < _; simp) d k
theorem pu_M_shiftMany (hX : CxOK X own cc nL fr lc mc ms rt) {index : Nat} {v : Int32} {M1 : Mem} (hM : M1 = mst M 1 19 v) (hfl : FL own index (TX7 19).1 (TX7 19).2.1 (TX7 19).2.2.1) (d : decode cc pc = .ok (.putfield index, 3)) (k : WM X o hn M1 G a b (pc + 3) nL lo st) : WM X o hn M G a b pc nL lo (.int v :: .ref (o 1) :: st) := by
  have hon := mst_on hM
  refine q_put hX (id := 1) (ci := 7) (N := 34) (T := TX7) (C := RX7) (ty := .int) (ty0 := tyX7) 19 (lt46 (by decide)) rfl (by rw [hon]; exact rfl) (mst_off hM) (fun _ _ => rfl) rfl in_X7 tyX7_ok nmX7 (by decide) hfl rfl (by decide +kernel) rfl rfl (by show _ < _; simp) d k
theorem pu_M_repairs (hX : CxOK X own cc nL fr lc mc ms rt) {index : Nat} {v : Int32} {M1 : Mem} (hM : M1 = mst M 1 20 v) (hfl : FL own index (TX7 20).1 (TX7 20).2.1 (TX7 20).2.2.1) (d : decode cc pc = .ok (.putfield index, 3)) (k : WM X o hn M1 G a b (pc + 3) nL lo st) : WM X o hn M G a b pc nL lo (.int v :: .ref (o 1) :: st) := by
  have hon := mst_on hM
  refine q_put hX (id := 1) (ci := 7) (N := 34) (T := TX7) (C := RX7) (ty := .int) (ty0 := tyX7) 20 (lt46 (by decide)) rfl (by rw [hon]; exact rfl) (mst_off hM) (fun _ _ => rfl) rfl in_X7 tyX7_ok nmX7 (by decide) hfl rfl (by decide +kernel) rfl rfl (by show _ < _; simp) d k
theorem pu_M_doubled (hX : CxOK X own cc nL fr lc mc ms rt) {index : Nat} {v : Int32} {M1 : Mem} (hM : M1 = mst M 1 31 v) (hfl : FL own index (TX7 31).1 (TX7 31).2.1 (TX7 31).2.2.1) (d : decode cc pc = .ok (.putfield index, 3)) (k : WM X o hn M1 G a b (pc + 3) nL lo st) : WM X o hn M G a b pc nL lo (.int v :: .ref (o 1) :: st) := by
  have hon := mst_on hM
  refine q_put hX (id := 1) (ci := 7) (N := 34) (T := TX7) (C := RX7) (ty := .int) (ty0 := tyX7) 31 (lt46 (by decide)) rfl (by rw [hon]; exact rfl) (mst_off hM) (fun _ _ => rfl) rfl in_X7 tyX7_ok nmX7 (by decide) hfl rfl (by decide +kernel) rfl rfl (by show _ < _; simp) d k
theorem pu_M_runs (hX : CxOK X own cc nL fr lc mc ms rt) {index : Nat} {v : Int32} {M1 : Mem} (hM : M1 = mst M 1 32 v) (hfl : FL own index (TX7 32).1 (TX7 32).2.1 (TX7 32).2.2.1) (d : decode cc pc = .ok (.putfield index, 3)) (k : WM X o hn M1 G a b (pc + 3) nL lo st) : WM X o hn M G a b pc nL lo (.int v :: .ref (o 1) :: st) := by
  have hon := mst_on hM
  refine q_put hX (id := 1) (ci := 7) (N := 34) (T := TX7) (C := RX7) (ty := .int) (ty0 := tyX7) 32 (lt46 (by decide)) rfl (by rw [hon]; exact rfl) (mst_off hM) (fun _ _ => rfl) rfl in_X7 tyX7_ok nmX7 (by decide) hfl rfl (by decide +kernel) rfl rfl (by show _ < _; simp) d k
theorem pu_M_longest (hX : CxOK X own cc nL fr lc mc ms rt) {index : Nat} {v : Int32} {M1 : Mem} (hM : M1 = mst M 1 33 v) (hfl : FL own index (TX7 33).1 (TX7 33).2.1 (TX7 33).2.2.1) (d : decode cc pc = .ok (.putfield index, 3)) (k : WM X o hn M1 G a b (pc + 3) nL lo st) : WM X o hn M G a b pc nL lo (.int v :: .ref (o 1) :: st) := by
  have hon := mst_on hM
  refine q_put hX (id := 1) (ci := 7) (N := 34) (T := TX7) (C := RX7) (ty := .int) (ty0 := tyX7) 33 (lt46 (by decide)) rfl (by rw [hon]; exact rfl) (mst_off hM) (fun _ _ => rfl) rfl in_X7 tyX7_ok nmX7 (by decide) hfl rfl (by decide +kernel) rfl rfl (by show _ < _; simp) d k
theorem pu_E_earn (hX : CxOK X own cc nL fr lc mc ms rt) {t : Nat} (ht : em hn t) {index : Nat} {v : Int64} {G1 : Mel} (hM : G1 = mstL G t 2 v) (hfl : FL own index (TX0 2).1 (TX0 2).2.1 (TX0 2).2.2.1) (d : decode cc pc = .ok (.putfield index, 3)) (k : WM X o hn M G1 a b (pc + 3) nL lo st) : WM X o hn M G a b pc nL lo (.long v :: .ref (o t) :: st) := by
  have hon := mstL_on hM
  refine q_put hX (id := t) (ci := 0) (N := 6) (T := TX0) (C := RX0) (ty := .long) (ty0 := tyX0) 2 (em_lt ht) (ob_E ht _ _) (by rw [hon]; exact (ob_E ht _ _)) (fun _ _ => rfl) (mstL_off hM) rfl in_X0 tyX0_ok nmX0 (by decide) hfl rfl (by decide +kernel) rfl rfl (by show _ < _; simp) d k
end Rows2
end
section
/-! links, by name -/
theorem tb_in_1 {w : Cond} (h : w ∈ tables_1_1) : w ∈ lw_tbl := List.mem_append_right _ (List.mem_append_left _ h)
theorem tb_in_2 {w : Cond} (h : w ∈ tables_1_2) : w ∈ lw_tbl := List.mem_append_right _ (List.mem_append_right _ (List.mem_append_left _ h))
theorem tb_in_3 {w : Cond} (h : w ∈ tables_1_3) : w ∈ lw_tbl := List.mem_append_right _ (List.mem_append_right _ (List.mem_append_right _ (List.mem_append_left _ h)))
theorem tb_in_4 {w : Cond} (h : w ∈ tables_1_4) : w ∈ lw_tbl := List.mem_append_right _ (List.mem_append_right _ (List.mem_append_right _ (List.mem_append_right _ (List.mem_append_left _ h))))
theorem tb_in_5 {w : Cond} (h : w ∈ tables_1_5) : w ∈ lw_tbl := List.mem_append_right _ (List.mem_append_right _ (List.mem_append_right _ (List.mem_append_right _ (List.mem_append_right _ h))))
theorem fn_X1_34 : Cond.fieldLinkNest RX1 34 "Timesheets$Timeline" "stretchList" "LTimesheets$Table;" "Timesheets" ∈ lw_tbl := tb_in_1 (List.mem_of_getElem? (l := tables_1_1) (i := 91) rfl)
theorem fn_X5_34 : Cond.fieldLinkNest RX5 34 "Timesheets$Employee" "punches" "LTimesheets$Table;" "Timesheets" ∈ lw_tbl := tb_in_2 (List.mem_of_getElem? (l := tables_1_2) (i := 13) rfl)
theorem fn_X5_46 : Cond.fieldLinkNest RX5 46 "Timesheets$Shifts" "spans" "LTimesheets$Table;" "Timesheets" ∈ lw_tbl := tb_in_1 (List.mem_of_getElem? (l := tables_1_1) (i := 76) rfl)
theorem fn_X5_53 : Cond.fieldLinkNest RX5 53 "Timesheets$Employee" "entries" "LTimesheets$Table;" "Timesheets" ∈ lw_tbl := tb_in_2 (List.mem_of_getElem? (l := tables_1_2) (i := 16) rfl)
theorem fn_X5_56 : Cond.fieldLinkNest RX5 56 "Timesheets$Employee" "breaks" "LTimesheets$Table;" "Timesheets" ∈ lw_tbl := tb_in_2 (List.mem_of_getElem? (l := tables_1_2) (i := 19) rfl)
theorem fn_X6_33 : Cond.fieldLinkNest RX6 33 "Timesheets$Payroll" "timeline" "LTimesheets$Timeline;" "Timesheets" ∈ lw_tbl := tb_in_1 (List.mem_of_getElem? (l := tables_1_1) (i := 107) rfl)
theorem fn_X6_38 : Cond.fieldLinkNest RX6 38 "Timesheets$Timeline" "shiftList" "LTimesheets$Shifts;" "Timesheets" ∈ lw_tbl := tb_in_1 (List.mem_of_getElem? (l := tables_1_1) (i := 88) rfl)
theorem fn_X6_64 : Cond.fieldLinkNest RX6 64 "Timesheets$Employee" "wage" "I" "Timesheets" ∈ lw_tbl := tb_in_2 (List.mem_of_getElem? (l := tables_1_2) (i := 7) rfl)
theorem fn_X6_67 : Cond.fieldLinkNest RX6 67 "Timesheets$Employee" "punches" "LTimesheets$Table;" "Timesheets" ∈ lw_tbl := tb_in_2 (List.mem_of_getElem? (l := tables_1_2) (i := 14) rfl)
theorem fn_X6_109 : Cond.fieldLinkNest RX6 109 "Timesheets$Employee" "entries" "LTimesheets$Table;" "Timesheets" ∈ lw_tbl := tb_in_2 (List.mem_of_getElem? (l := tables_1_2) (i := 17) rfl)
theorem fn_X6_119 : Cond.fieldLinkNest RX6 119 "Timesheets$Employee" "breaks" "LTimesheets$Table;" "Timesheets" ∈ lw_tbl := tb_in_2 (List.mem_of_getElem? (l := tables_1_2) (i := 20) rfl)
theorem fn_X6_122 : Cond.fieldLinkNest RX6 122 "Timesheets$Premiums" "rows" "LTimesheets$Table;" "Timesheets" ∈ lw_tbl := tb_in_1 (List.mem_of_getElem? (l := tables_1_1) (i := 51) rfl)
theorem fn_X6_139 : Cond.fieldLinkNest RX6 139 "Timesheets$Payroll" "parts" "LTimesheets$Table;" "Timesheets" ∈ lw_tbl := tb_in_1 (List.mem_of_getElem? (l := tables_1_1) (i := 110) rfl)
theorem fn_X6_149 : Cond.fieldLinkNest RX6 149 "Timesheets$Employee" "weeksClosed" "I" "Timesheets" ∈ lw_tbl := tb_in_2 (List.mem_of_getElem? (l := tables_1_2) (i := 9) rfl)
theorem fn_X6_152 : Cond.fieldLinkNest RX6 152 "Timesheets$Employee" "earnings" "J" "Timesheets" ∈ lw_tbl := tb_in_2 (List.mem_of_getElem? (l := tables_1_2) (i := 11) rfl)
theorem fn_X6_161 : Cond.fieldLinkNest RX6 161 "Timesheets$Shifts" "spans" "LTimesheets$Table;" "Timesheets" ∈ lw_tbl := tb_in_1 (List.mem_of_getElem? (l := tables_1_1) (i := 77) rfl)
theorem fn_X6_167 : Cond.fieldLinkNest RX6 167 "Timesheets$Shifts" "repaired" "I" "Timesheets" ∈ lw_tbl := tb_in_1 (List.mem_of_getElem? (l := tables_1_1) (i := 79) rfl)
theorem fn_X6_174 : Cond.fieldLinkNest RX6 174 "Timesheets$Timeline" "coveredTwice" "I" "Timesheets" ∈ lw_tbl := tb_in_1 (List.mem_of_getElem? (l := tables_1_1) (i := 94) rfl)
theorem fn_X6_177 : Cond.fieldLinkNest RX6 177 "Timesheets$Timeline" "stretchList" "LTimesheets$Table;" "Timesheets" ∈ lw_tbl := tb_in_1 (List.mem_of_getElem? (l := tables_1_1) (i := 92) rfl)
theorem vl_L_7 : VL RL 7 yX6_hire cX6_hire 3 (some .int) := ⟨kw_113, kw_114, kw_115, kw_2, kw_116, by decide +kernel, by decide +kernel⟩
theorem vl_L_17 : VL RL 17 yX6_setWage cX6_setWage 5 (some .int) := ⟨kw_156, kw_157, kw_158, kw_2, kw_159, by decide +kernel, by decide +kernel⟩
theorem vl_L_23 : VL RL 23 yX6_punch cX6_punch 6 (some .int) := ⟨kw_177, kw_178, kw_179, kw_2, kw_180, by decide +kernel, by decide +kernel⟩
theorem vl_L_27 : VL RL 27 yX6_removePunch cX6_removePunch 6 (some .boolean) := ⟨kw_222, kw_223, kw_224, kw_2, kw_225, by decide +kernel, by decide +kernel⟩
theorem vl_L_33 : VL RL 33 yX6_enter cX6_enter 4 (some .int) := ⟨kw_239, kw_240, kw_241, kw_2, kw_242, by decide +kernel, by decide +kernel⟩
theorem vl_L_37 : VL RL 37 yX6_removeEntry cX6_removeEntry 3 (some .int) := ⟨kw_263, kw_264, kw_265, kw_2, kw_266, by decide +kernel, by decide +kernel⟩
theorem vl_L_40 : VL RL 40 yX6_enterBreak cX6_enterBreak 4 (some .int) := ⟨kw_284, kw_285, kw_286, kw_2, kw_287, by decide +kernel, by decide +kernel⟩
theorem vl_L_43 : VL RL 43 yX6_removeBreak cX6_removeBreak 3 (some .int) := ⟨kw_295, kw_296, kw_297, kw_2, kw_298, by decide +kernel, by decide +kernel⟩
theorem vl_L_46 : VL RL 46 yX6_addPremium cX6_addPremium 5 (some .int) := ⟨kw_306, kw_307, kw_308, kw_2, kw_309, by decide +kernel, by decide +kernel⟩
theorem vl_L_50 : VL RL 50 yX6_removePremium cX6_removePremium 2 (some .int) := ⟨kw_325, kw_326, kw_327, kw_2, kw_328, by decide +kernel, by decide +kernel⟩
theorem vl_L_53 : VL RL 53 yX6_closeWeek cX6_closeWeek 4 (some .int) := ⟨kw_336, kw_337, kw_338, kw_2, kw_339, by decide +kernel, by decide +kernel⟩
theorem vl_L_56 : VL RL 56 yX6_closedWeeks cX6_closedWeeks 2 (some .int) := ⟨kw_535, kw_536, kw_537, kw_2, kw_538, by decide +kernel, by decide +kernel⟩
theorem vl_L_59 : VL RL 59 yX6_earned cX6_earned 2 (some .long) := ⟨kw_550, kw_551, kw_552, kw_2, kw_553, by decide +kernel, by decide +kernel⟩
theorem vl_L_63 : VL RL 63 yX6_shifts cX6_shifts 2 (some .int) := ⟨kw_561, kw_562, kw_563, kw_2, kw_564, by decide +kernel, by decide +kernel⟩
theorem vl_L_66 : VL RL 66 yX6_shiftBegin cX6_shiftBegin 3 (some .int) := ⟨kw_577, kw_578, kw_579, kw_2, kw_580, by decide +kernel, by decide +kernel⟩
theorem vl_L_69 : VL RL 69 yX6_shiftEnd cX6_shiftEnd 3 (some .int) := ⟨kw_588, kw_589, kw_590, kw_2, kw_591, by decide +kernel, by decide +kernel⟩
theorem vl_L_72 : VL RL 72 yX6_repairedShifts cX6_repairedShifts 2 (some .int) := ⟨kw_599, kw_600, kw_601, kw_2, kw_602, by decide +kernel, by decide +kernel⟩
theorem vl_L_75 : VL RL 75 yX6_coverage cX6_coverage 4 (some .int) := ⟨kw_610, kw_611, kw_612, kw_2, kw_613, by decide +kernel, by decide +kernel⟩
theorem vl_L_78 : VL RL 78 yX6_overlap cX6_overlap 2 (some .int) := ⟨kw_624, kw_625, kw_626, kw_2, kw_627, by decide +kernel, by decide +kernel⟩
theorem vl_L_81 : VL RL 81 yX6_workedOn cX6_workedOn 4 (some .int) := ⟨kw_636, kw_637, kw_638, kw_2, kw_639, by decide +kernel, by decide +kernel⟩
theorem vl_L_84 : VL RL 84 yX6_stretches cX6_stretches 2 (some .int) := ⟨kw_648, kw_649, kw_650, kw_2, kw_651, by decide +kernel, by decide +kernel⟩
theorem vl_L_87 : VL RL 87 yX6_longestStretch cX6_longestStretch 2 (some .int) := ⟨kw_659, kw_660, kw_661, kw_2, kw_662, by decide +kernel, by decide +kernel⟩
theorem vl_L_90 : VL RL 90 yX6_category cX6_category 4 (some .int) := ⟨kw_673, kw_674, kw_675, kw_2, kw_676, by decide +kernel, by decide +kernel⟩
theorem vl_L_93 : VL RL 93 yX6_minutes cX6_minutes 5 (some .int) := ⟨kw_688, kw_689, kw_690, kw_2, kw_691, by decide +kernel, by decide +kernel⟩
theorem vl_L_96 : VL RL 96 yX6_quarters cX6_quarters 5 (some .int) := ⟨kw_704, kw_705, kw_706, kw_2, kw_707, by decide +kernel, by decide +kernel⟩
theorem vl_L_99 : VL RL 99 yX6_premiumPay cX6_premiumPay 2 (some .int) := ⟨kw_719, kw_720, kw_721, kw_2, kw_722, by decide +kernel, by decide +kernel⟩
theorem vl_L_102 : VL RL 102 yX6_pay cX6_pay 3 (some .int) := ⟨kw_730, kw_731, kw_732, kw_2, kw_733, by decide +kernel, by decide +kernel⟩
theorem vl_L_114 : VL RL 114 yX7_hire cX7_hire 2 (some .int) := ⟨kw_139, kw_140, kw_141, kw_5, kw_142, by decide +kernel, by decide +kernel⟩
theorem vl_L_115 : VL RL 115 yX7_thrown cX7_thrown 1 (some .int) := ⟨kw_148, kw_149, kw_150, kw_5, kw_151, by decide +kernel, by decide +kernel⟩
theorem vl_L_122 : VL RL 122 yX7_setWage cX7_setWage 4 (some .int) := ⟨kw_166, kw_167, kw_168, kw_5, kw_169, by decide +kernel, by decide +kernel⟩
theorem vl_L_126 : VL RL 126 yX7_punch cX7_punch 6 (some .int) := ⟨kw_206, kw_207, kw_208, kw_5, kw_209, by decide +kernel, by decide +kernel⟩
theorem vl_L_129 : VL RL 129 yX7_removePunch cX7_removePunch 6 (some .boolean) := ⟨kw_232, kw_233, kw_234, kw_5, kw_235, by decide +kernel, by decide +kernel⟩
theorem vl_L_133 : VL RL 133 yX7_enter cX7_enter 4 (some .int) := ⟨kw_252, kw_253, kw_254, kw_5, kw_255, by decide +kernel, by decide +kernel⟩
theorem vl_L_136 : VL RL 136 yX7_removeEntry cX7_removeEntry 3 (some .int) := ⟨kw_273, kw_274, kw_275, kw_5, kw_276, by decide +kernel, by decide +kernel⟩
theorem vl_L_139 : VL RL 139 yX7_enterBreak cX7_enterBreak 4 (some .int) := ⟨kw_288, kw_289, kw_290, kw_5, kw_291, by decide +kernel, by decide +kernel⟩
theorem vl_L_142 : VL RL 142 yX7_removeBreak cX7_removeBreak 3 (some .int) := ⟨kw_299, kw_300, kw_301, kw_5, kw_302, by decide +kernel, by decide +kernel⟩
theorem vl_L_146 : VL RL 146 yX7_addPremium cX7_addPremium 6 (some .int) := ⟨kw_317, kw_318, kw_319, kw_5, kw_320, by decide +kernel, by decide +kernel⟩
theorem vl_L_149 : VL RL 149 yX7_removePremium cX7_removePremium 3 (some .int) := ⟨kw_329, kw_330, kw_331, kw_5, kw_332, by decide +kernel, by decide +kernel⟩
theorem vl_L_152 : VL RL 152 yX7_closeWeek cX7_closeWeek 3 (some .int) := ⟨kw_471, kw_472, kw_473, kw_5, kw_474, by decide +kernel, by decide +kernel⟩
theorem vl_L_153 : VL RL 153 yX6_employees cX6_employees 1 (some .int) := ⟨kw_524, kw_525, kw_526, kw_2, kw_527, by decide +kernel, by decide +kernel⟩
theorem vl_L_156 : VL RL 156 yX7_employees cX7_employees 1 (some .int) := ⟨kw_528, kw_529, kw_530, kw_5, kw_531, by decide +kernel, by decide +kernel⟩
theorem vl_L_159 : VL RL 159 yX7_closedWeeks cX7_closedWeeks 2 (some .int) := ⟨kw_539, kw_540, kw_541, kw_5, kw_542, by decide +kernel, by decide +kernel⟩
theorem vl_L_162 : VL RL 162 yX7_earned cX7_earned 2 (some .long) := ⟨kw_554, kw_555, kw_556, kw_5, kw_557, by decide +kernel, by decide +kernel⟩
theorem vl_L_165 : VL RL 165 yX7_shifts cX7_shifts 2 (some .int) := ⟨kw_566, kw_567, kw_568, kw_5, kw_569, by decide +kernel, by decide +kernel⟩
theorem vl_L_168 : VL RL 168 yX7_shiftBegin cX7_shiftBegin 4 (some .int) := ⟨kw_581, kw_582, kw_583, kw_5, kw_584, by decide +kernel, by decide +kernel⟩
theorem vl_L_171 : VL RL 171 yX7_shiftEnd cX7_shiftEnd 4 (some .int) := ⟨kw_592, kw_593, kw_594, kw_5, kw_595, by decide +kernel, by decide +kernel⟩
theorem vl_L_174 : VL RL 174 yX7_repairedShifts cX7_repairedShifts 2 (some .int) := ⟨kw_603, kw_604, kw_605, kw_5, kw_606, by decide +kernel, by decide +kernel⟩
theorem vl_L_177 : VL RL 177 yX7_coverage cX7_coverage 4 (some .int) := ⟨kw_617, kw_618, kw_619, kw_5, kw_620, by decide +kernel, by decide +kernel⟩
theorem vl_L_180 : VL RL 180 yX7_overlap cX7_overlap 2 (some .int) := ⟨kw_629, kw_630, kw_631, kw_5, kw_632, by decide +kernel, by decide +kernel⟩
theorem vl_L_183 : VL RL 183 yX7_workedOn cX7_workedOn 4 (some .int) := ⟨kw_641, kw_642, kw_643, kw_5, kw_644, by decide +kernel, by decide +kernel⟩
theorem vl_L_186 : VL RL 186 yX7_stretches cX7_stretches 2 (some .int) := ⟨kw_652, kw_653, kw_654, kw_5, kw_655, by decide +kernel, by decide +kernel⟩
theorem vl_L_189 : VL RL 189 yX7_longestStretch cX7_longestStretch 2 (some .int) := ⟨kw_666, kw_667, kw_668, kw_5, kw_669, by decide +kernel, by decide +kernel⟩
theorem vl_L_192 : VL RL 192 yX7_category cX7_category 4 (some .int) := ⟨kw_681, kw_682, kw_683, kw_5, kw_684, by decide +kernel, by decide +kernel⟩
theorem vl_L_195 : VL RL 195 yX7_minutes cX7_minutes 4 (some .int) := ⟨kw_693, kw_694, kw_695, kw_5, kw_696, by decide +kernel, by decide +kernel⟩
theorem vl_L_198 : VL RL 198 yX7_quarters cX7_quarters 4 (some .int) := ⟨kw_712, kw_713, kw_714, kw_5, kw_715, by decide +kernel, by decide +kernel⟩
theorem vl_L_201 : VL RL 201 yX7_premiumPay cX7_premiumPay 2 (some .int) := ⟨kw_723, kw_724, kw_725, kw_5, kw_726, by decide +kernel, by decide +kernel⟩
theorem vl_L_204 : VL RL 204 yX7_pay cX7_pay 2 (some .int) := ⟨kw_734, kw_735, kw_736, kw_5, kw_737, by decide +kernel, by decide +kernel⟩
theorem vl_X0_37 : VL RX0 37 yX4_clear cX4_clear 1 none := ⟨kw_470, kw_353, kw_354, kw_32, kw_355, by decide +kernel, by decide +kernel⟩
theorem vl_X1_30 : VL RX1 30 yX5_read cX5_read 2 none := ⟨kw_344, kw_345, kw_346, kw_48, kw_347, by decide +kernel, by decide +kernel⟩
theorem vl_X1_37 : VL RX1 37 yX1_takeOffAutomaticBreaks cX1_takeOffAutomaticBreaks 5 none := ⟨kw_399, kw_400, kw_401, kw_22, kw_402, by decide +kernel, by decide +kernel⟩
theorem vl_X1_41 : VL RX1 41 yX4_clear cX4_clear 1 none := ⟨kw_404, kw_353, kw_354, kw_32, kw_355, by decide +kernel, by decide +kernel⟩
theorem vl_X1_44 : VL RX1 44 yX1_isFull cX1_isFull 3 (some .boolean) := ⟨kw_408, kw_409, kw_410, kw_22, kw_411, by decide +kernel, by decide +kernel⟩
theorem vl_X1_48 : VL RX1 48 yX1_addPartsOfDay cX1_addPartsOfDay 8 none := ⟨kw_416, kw_417, kw_418, kw_22, kw_419, by decide +kernel, by decide +kernel⟩
theorem mn_X1_52 : Cond.methodLinkNest RX1 52 yX6_minutesOnDay "Timesheets" ∈ lw_tbl := tb_in_3 (List.mem_of_getElem? (l := tables_1_3) (i := 28) rfl)
theorem vl_X1_56 : VL RX1 56 yX4_size cX4_size 1 (some .int) := ⟨kw_405, kw_185, kw_186, kw_32, kw_187, by decide +kernel, by decide +kernel⟩
theorem vl_X1_60 : VL RX1 60 yX4_get cX4_get 4 (some .int) := ⟨kw_406, kw_192, kw_193, kw_32, kw_194, by decide +kernel, by decide +kernel⟩
theorem vl_X1_69 : VL RX1 69 yX4_addSpan cX4_addSpan 4 none := ⟨kw_407, kw_247, kw_248, kw_32, kw_249, by decide +kernel, by decide +kernel⟩
theorem vl_X1_75 : VL RX1 75 yX1_addParts cX1_addParts 12 none := ⟨kw_421, kw_422, kw_423, kw_22, kw_424, by decide +kernel, by decide +kernel⟩
theorem sl_X1_79 : SL RX1 79 yX1_untilLimit cX1_untilLimit 3 (some .int) := ⟨kw_425, kw_426, kw_22, kw_427, by decide +kernel, by decide +kernel, rfl⟩
theorem sl_X1_82 : SL RX1 82 yX1_categoryFor cX1_categoryFor 3 (some .int) := ⟨kw_428, kw_429, kw_22, kw_430, by decide +kernel, by decide +kernel, rfl⟩
theorem vl_X1_86 : VL RX1 86 yX4_set cX4_set 5 none := ⟨kw_431, kw_203, kw_204, kw_32, kw_205, by decide +kernel, by decide +kernel⟩
theorem vl_X1_90 : VL RX1 90 yX1_minutesOf cX1_minutesOf 5 (some .int) := ⟨kw_440, kw_441, kw_442, kw_22, kw_443, by decide +kernel, by decide +kernel⟩
theorem vl_X1_93 : VL RX1 93 yX1_quartersOfWeek cX1_quartersOfWeek 4 (some .int) := ⟨kw_436, kw_437, kw_438, kw_22, kw_439, by decide +kernel, by decide +kernel⟩
theorem vl_X2_20 : VL RX2 20 yX4_size cX4_size 1 (some .int) := ⟨kw_314, kw_185, kw_186, kw_32, kw_187, by decide +kernel, by decide +kernel⟩
theorem vl_X2_24 : VL RX2 24 yX4_insert cX4_insert 3 none := ⟨kw_315, kw_199, kw_200, kw_32, kw_201, by decide +kernel, by decide +kernel⟩
theorem vl_X2_28 : VL RX2 28 yX4_set cX4_set 5 none := ⟨kw_316, kw_203, kw_204, kw_32, kw_205, by decide +kernel, by decide +kernel⟩
theorem vl_X2_32 : VL RX2 32 yX4_get cX4_get 4 (some .int) := ⟨kw_448, kw_192, kw_193, kw_32, kw_194, by decide +kernel, by decide +kernel⟩
theorem vl_X2_36 : VL RX2 36 yX2_sumOver cX2_sumOver 8 (some .int) := ⟨kw_449, kw_450, kw_451, kw_18, kw_452, by decide +kernel, by decide +kernel⟩
theorem vl_X2_39 : VL RX2 39 yX2_nextChange cX2_nextChange 6 (some .int) := ⟨kw_454, kw_455, kw_456, kw_18, kw_457, by decide +kernel, by decide +kernel⟩
theorem vl_X2_48 : VL RX2 48 yX2_greatestRate cX2_greatestRate 6 (some .int) := ⟨kw_458, kw_459, kw_460, kw_18, kw_461, by decide +kernel, by decide +kernel⟩
theorem sl_X2_51 : SL RX2 51 yX2_isBetween cX2_isBetween 3 (some .boolean) := ⟨kw_463, kw_464, kw_18, kw_465, by decide +kernel, by decide +kernel, rfl⟩
theorem vl_X3_24 : VL RX3 24 yX4_clear cX4_clear 1 none := ⟨kw_352, kw_353, kw_354, kw_32, kw_355, by decide +kernel, by decide +kernel⟩
theorem vl_X3_27 : VL RX3 27 yX4_size cX4_size 1 (some .int) := ⟨kw_356, kw_185, kw_186, kw_32, kw_187, by decide +kernel, by decide +kernel⟩
theorem sl_X3_31 : SL RX3 31 yX3_isIn cX3_isIn 2 (some .boolean) := ⟨kw_357, kw_358, kw_59, kw_359, by decide +kernel, by decide +kernel, rfl⟩
theorem vl_X3_35 : VL RX3 35 yX3_addFromIn cX3_addFromIn 6 none := ⟨kw_361, kw_362, kw_363, kw_59, kw_364, by decide +kernel, by decide +kernel⟩
theorem vl_X3_39 : VL RX3 39 yX3_addFromLoneOut cX3_addFromLoneOut 5 none := ⟨kw_370, kw_371, kw_372, kw_59, kw_373, by decide +kernel, by decide +kernel⟩
theorem vl_X3_42 : VL RX3 42 yX4_get cX4_get 4 (some .int) := ⟨kw_360, kw_192, kw_193, kw_32, kw_194, by decide +kernel, by decide +kernel⟩
theorem vl_X3_51 : VL RX3 51 yX4_addSpan cX4_addSpan 4 none := ⟨kw_369, kw_247, kw_248, kw_32, kw_249, by decide +kernel, by decide +kernel⟩
theorem vl_X4_22 : VL RX4 22 yX4_insert cX4_insert 3 none := ⟨kw_250, kw_199, kw_200, kw_32, kw_201, by decide +kernel, by decide +kernel⟩
theorem vl_X4_26 : VL RX4 26 yX4_set cX4_set 5 none := ⟨kw_251, kw_203, kw_204, kw_32, kw_205, by decide +kernel, by decide +kernel⟩
theorem vl_X5_39 : VL RX5 39 yX3_read cX3_read 3 none := ⟨kw_348, kw_349, kw_350, kw_59, kw_351, by decide +kernel, by decide +kernel⟩
theorem vl_X5_43 : VL RX5 43 yX4_clear cX4_clear 1 none := ⟨kw_377, kw_353, kw_354, kw_32, kw_355, by decide +kernel, by decide +kernel⟩
theorem vl_X5_49 : VL RX5 49 yX5_addEvents cX5_addEvents 5 none := ⟨kw_378, kw_379, kw_380, kw_48, kw_381, by decide +kernel, by decide +kernel⟩
theorem vl_X5_59 : VL RX5 59 yX5_goThroughEvents cX5_goThroughEvents 6 none := ⟨kw_390, kw_391, kw_392, kw_48, kw_393, by decide +kernel, by decide +kernel⟩
theorem vl_X5_62 : VL RX5 62 yX4_size cX4_size 1 (some .int) := ⟨kw_382, kw_185, kw_186, kw_32, kw_187, by decide +kernel, by decide +kernel⟩
theorem vl_X5_66 : VL RX5 66 yX4_get cX4_get 4 (some .int) := ⟨kw_383, kw_192, kw_193, kw_32, kw_194, by decide +kernel, by decide +kernel⟩
theorem vl_X5_70 : VL RX5 70 yX5_addEvent cX5_addEvent 6 none := ⟨kw_384, kw_385, kw_386, kw_48, kw_387, by decide +kernel, by decide +kernel⟩
theorem vl_X5_74 : VL RX5 74 yX4_insert cX4_insert 3 none := ⟨kw_388, kw_199, kw_200, kw_32, kw_201, by decide +kernel, by decide +kernel⟩
theorem vl_X5_78 : VL RX5 78 yX4_set cX4_set 5 none := ⟨kw_389, kw_203, kw_204, kw_32, kw_205, by decide +kernel, by decide +kernel⟩
theorem vl_X5_81 : VL RX5 81 yX5_addWorked cX5_addWorked 4 none := ⟨kw_394, kw_395, kw_396, kw_48, kw_397, by decide +kernel, by decide +kernel⟩
theorem vl_X5_84 : VL RX5 84 yX4_addSpan cX4_addSpan 4 none := ⟨kw_398, kw_247, kw_248, kw_32, kw_249, by decide +kernel, by decide +kernel⟩
theorem sl_X6_46 : SL RX6 46 yX6_requireWithin cX6_requireWithin 3 none := ⟨kw_122, kw_123, kw_2, kw_124, by decide +kernel, by decide +kernel, rfl⟩
theorem vl_X6_60 : VL RX6 60 yX6_find cX6_find 3 (some (.object "Timesheets$Employee")) := ⟨kw_160, kw_161, kw_162, kw_2, kw_163, by decide +kernel, by decide +kernel⟩
theorem sl_X6_71 : SL RX6 71 yX6_requireRoom cX6_requireRoom 2 none := ⟨kw_181, kw_182, kw_2, kw_183, by decide +kernel, by decide +kernel, rfl⟩
theorem sl_X6_75 : SL RX6 75 yX6_placeOfPunch cX6_placeOfPunch 4 (some .int) := ⟨kw_188, kw_189, kw_2, kw_190, by decide +kernel, by decide +kernel, rfl⟩
theorem sl_X6_79 : SL RX6 79 yX6_isPunchAt cX6_isPunchAt 3 (some .boolean) := ⟨kw_195, kw_196, kw_2, kw_197, by decide +kernel, by decide +kernel, rfl⟩
theorem vl_X6_85 : VL RX6 85 yX4_insert cX4_insert 3 none := ⟨kw_198, kw_199, kw_200, kw_32, kw_201, by decide +kernel, by decide +kernel⟩
theorem vl_X6_90 : VL RX6 90 yX4_set cX4_set 5 none := ⟨kw_202, kw_203, kw_204, kw_32, kw_205, by decide +kernel, by decide +kernel⟩
theorem vl_X6_93 : VL RX6 93 yX4_size cX4_size 1 (some .int) := ⟨kw_184, kw_185, kw_186, kw_32, kw_187, by decide +kernel, by decide +kernel⟩
theorem vl_X6_102 : VL RX6 102 yX4_get cX4_get 4 (some .int) := ⟨kw_191, kw_192, kw_193, kw_32, kw_194, by decide +kernel, by decide +kernel⟩
theorem vl_X6_106 : VL RX6 106 yX4_remove cX4_remove 3 none := ⟨kw_228, kw_229, kw_230, kw_32, kw_231, by decide +kernel, by decide +kernel⟩
theorem sl_X6_112 : SL RX6 112 yX6_addByHand cX6_addByHand 4 (some .int) := ⟨kw_243, kw_244, kw_2, kw_245, by decide +kernel, by decide +kernel, rfl⟩
theorem sl_X6_116 : SL RX6 116 yX6_removeNumbered cX6_removeNumbered 2 (some .int) := ⟨kw_267, kw_268, kw_2, kw_269, by decide +kernel, by decide +kernel, rfl⟩
theorem vl_X6_125 : VL RX6 125 yX2_add cX2_add 6 (some .int) := ⟨kw_310, kw_311, kw_312, kw_18, kw_313, by decide +kernel, by decide +kernel⟩
theorem vl_X6_131 : VL RX6 131 yX1_read cX1_read 5 none := ⟨kw_340, kw_341, kw_342, kw_22, kw_343, by decide +kernel, by decide +kernel⟩
theorem vl_X6_135 : VL RX6 135 yX1_basicPay cX1_basicPay 3 (some .int) := ⟨kw_432, kw_433, kw_434, kw_22, kw_435, by decide +kernel, by decide +kernel⟩
theorem vl_X6_142 : VL RX6 142 yX2_payFor cX2_payFor 4 (some .int) := ⟨kw_444, kw_445, kw_446, kw_18, kw_447, by decide +kernel, by decide +kernel⟩
theorem vl_X6_146 : VL RX6 146 yX0_beginNextWeek cX0_beginNextWeek 2 none := ⟨kw_466, kw_467, kw_468, kw_121, kw_469, by decide +kernel, by decide +kernel⟩
theorem vl_X6_156 : VL RX6 156 yX3_read cX3_read 3 none := ⟨kw_565, kw_349, kw_350, kw_59, kw_351, by decide +kernel, by decide +kernel⟩
theorem sl_X6_164 : SL RX6 164 yX6_requireNumber cX6_requireNumber 2 none := ⟨kw_270, kw_271, kw_2, kw_272, by decide +kernel, by decide +kernel, rfl⟩
theorem sl_X6_170 : SL RX6 170 yX6_countContaining cX6_countContaining 4 (some .int) := ⟨kw_614, kw_615, kw_2, kw_616, by decide +kernel, by decide +kernel, rfl⟩
theorem vl_X6_173 : VL RX6 173 yX5_read cX5_read 2 none := ⟨kw_628, kw_345, kw_346, kw_48, kw_347, by decide +kernel, by decide +kernel⟩
theorem sl_X6_180 : SL RX6 180 yX6_minutesOnDay cX6_minutesOnDay 6 (some .int) := ⟨kw_640, kw_412, kw_2, kw_413, by decide +kernel, by decide +kernel, rfl⟩
theorem sl_X6_183 : SL RX6 183 yX6_longest cX6_longest 3 (some .int) := ⟨kw_663, kw_664, kw_2, kw_665, by decide +kernel, by decide +kernel, rfl⟩
theorem vl_X6_186 : VL RX6 186 yX1_categoryAt cX1_categoryAt 4 (some .int) := ⟨kw_677, kw_678, kw_679, kw_22, kw_680, by decide +kernel, by decide +kernel⟩
theorem vl_X6_189 : VL RX6 189 yX1_minutesOf cX1_minutesOf 5 (some .int) := ⟨kw_692, kw_441, kw_442, kw_22, kw_443, by decide +kernel, by decide +kernel⟩
theorem vl_X6_192 : VL RX6 192 yX1_quartersOf cX1_quartersOf 9 (some .int) := ⟨kw_708, kw_709, kw_710, kw_22, kw_711, by decide +kernel, by decide +kernel⟩
theorem vl_X6_209 : VL RX6 209 yX4_addSpan cX4_addSpan 4 none := ⟨kw_246, kw_247, kw_248, kw_32, kw_249, by decide +kernel, by decide +kernel⟩
theorem sl_X7_97 : SL RX7 97 yX7_in cX7_in 3 (some .boolean) := ⟨kw_145, kw_146, kw_5, kw_147, by decide +kernel, by decide +kernel, rfl⟩
theorem vl_X7_102 : VL RX7 102 yX7_isOne cX7_isOne 2 (some .boolean) := ⟨kw_170, kw_171, kw_172, kw_5, kw_173, by decide +kernel, by decide +kernel⟩
theorem vl_X7_106 : VL RX7 106 yX7_placeOf cX7_placeOf 4 (some .int) := ⟨kw_214, kw_215, kw_216, kw_5, kw_217, by decide +kernel, by decide +kernel⟩
theorem vl_X7_110 : VL RX7 110 yX7_hasPunch cX7_hasPunch 4 (some .boolean) := ⟨kw_210, kw_211, kw_212, kw_5, kw_213, by decide +kernel, by decide +kernel⟩
theorem vl_X7_114 : VL RX7 114 yX7_puts cX7_puts 7 (some .int) := ⟨kw_256, kw_257, kw_258, kw_5, kw_259, by decide +kernel, by decide +kernel⟩
theorem vl_X7_118 : VL RX7 118 yX7_takes cX7_takes 7 (some .int) := ⟨kw_277, kw_278, kw_279, kw_5, kw_280, by decide +kernel, by decide +kernel⟩
theorem vl_X7_131 : VL RX7 131 yX7_makes cX7_makes 4 none := ⟨kw_489, kw_490, kw_491, kw_5, kw_492, by decide +kernel, by decide +kernel⟩
theorem vl_X7_135 : VL RX7 135 yX7_findsShifts cX7_findsShifts 9 none := ⟨kw_484, kw_485, kw_486, kw_5, kw_487, by decide +kernel, by decide +kernel⟩
theorem vl_X7_139 : VL RX7 139 yX7_marks cX7_marks 4 none := ⟨kw_493, kw_494, kw_495, kw_5, kw_496, by decide +kernel, by decide +kernel⟩
theorem vl_X7_143 : VL RX7 143 yX7_findsPaid cX7_findsPaid 5 none := ⟨kw_497, kw_498, kw_499, kw_5, kw_500, by decide +kernel, by decide +kernel⟩
theorem vl_X7_146 : VL RX7 146 yX7_findsKinds cX7_findsKinds 7 none := ⟨kw_504, kw_505, kw_506, kw_5, kw_507, by decide +kernel, by decide +kernel⟩
theorem vl_X7_149 : VL RX7 149 yX7_findsShares cX7_findsShares 5 none := ⟨kw_508, kw_509, kw_510, kw_5, kw_511, by decide +kernel, by decide +kernel⟩
theorem vl_X7_161 : VL RX7 161 yX7_ahead cX7_ahead 7 (some .int) := ⟨kw_512, kw_513, kw_514, kw_5, kw_515, by decide +kernel, by decide +kernel⟩
theorem vl_X7_164 : VL RX7 164 yX7_applies cX7_applies 7 (some .boolean) := ⟨kw_520, kw_521, kw_522, kw_5, kw_523, by decide +kernel, by decide +kernel⟩
theorem vl_X7_167 : VL RX7 167 yX7_lays cX7_lays 3 none := ⟨kw_479, kw_480, kw_481, kw_5, kw_482, by decide +kernel, by decide +kernel⟩
theorem vl_X7_170 : VL RX7 170 yX7_extra cX7_extra 5 (some .int) := ⟨kw_516, kw_517, kw_518, kw_5, kw_519, by decide +kernel, by decide +kernel⟩
theorem vl_X7_174 : VL RX7 174 yX7_payOf cX7_payOf 3 (some .int) := ⟨kw_475, kw_476, kw_477, kw_5, kw_478, by decide +kernel, by decide +kernel⟩
theorem vl_X7_178 : VL RX7 178 yX7_fails cX7_fails 2 (some .int) := ⟨kw_543, kw_544, kw_545, kw_5, kw_546, by decide +kernel, by decide +kernel⟩
theorem vl_X7_181 : VL RX7 181 yX7_looks cX7_looks 2 (some .boolean) := ⟨kw_570, kw_571, kw_572, kw_5, kw_573, by decide +kernel, by decide +kernel⟩
theorem vl_X7_184 : VL RX7 184 yX7_told cX7_told 6 (some .int) := ⟨kw_697, kw_698, kw_699, kw_5, kw_700, by decide +kernel, by decide +kernel⟩
theorem pd_yX0_beginNextWeek : (parseMethodDescriptor yX0_beginNextWeek.desc).map (fun d => d.parameters.length) = some 1 := by decide +kernel
theorem pd_yX1_addParts : (parseMethodDescriptor yX1_addParts.desc).map (fun d => d.parameters.length) = some 5 := by decide +kernel
theorem pd_yX1_addPartsOfDay : (parseMethodDescriptor yX1_addPartsOfDay.desc).map (fun d => d.parameters.length) = some 3 := by decide +kernel
theorem pd_yX1_basicPay : (parseMethodDescriptor yX1_basicPay.desc).map (fun d => d.parameters.length) = some 1 := by decide +kernel
theorem pd_yX1_categoryAt : (parseMethodDescriptor yX1_categoryAt.desc).map (fun d => d.parameters.length) = some 1 := by decide +kernel
theorem pd_yX1_categoryFor : (parseMethodDescriptor yX1_categoryFor.desc).map (fun d => d.parameters.length) = some 3 := by decide +kernel
theorem pd_yX1_isFull : (parseMethodDescriptor yX1_isFull.desc).map (fun d => d.parameters.length) = some 0 := by decide +kernel
theorem pd_yX1_minutesOf : (parseMethodDescriptor yX1_minutesOf.desc).map (fun d => d.parameters.length) = some 2 := by decide +kernel
theorem pd_yX1_quartersOf : (parseMethodDescriptor yX1_quartersOf.desc).map (fun d => d.parameters.length) = some 2 := by decide +kernel
theorem pd_yX1_quartersOfWeek : (parseMethodDescriptor yX1_quartersOfWeek.desc).map (fun d => d.parameters.length) = some 1 := by decide +kernel
theorem pd_yX1_read : (parseMethodDescriptor yX1_read.desc).map (fun d => d.parameters.length) = some 1 := by decide +kernel
theorem pd_yX1_takeOffAutomaticBreaks : (parseMethodDescriptor yX1_takeOffAutomaticBreaks.desc).map (fun d => d.parameters.length) = some 1 := by decide +kernel
theorem pd_yX1_untilLimit : (parseMethodDescriptor yX1_untilLimit.desc).map (fun d => d.parameters.length) = some 2 := by decide +kernel
theorem pd_yX2_add : (parseMethodDescriptor yX2_add.desc).map (fun d => d.parameters.length) = some 4 := by decide +kernel
theorem pd_yX2_greatestRate : (parseMethodDescriptor yX2_greatestRate.desc).map (fun d => d.parameters.length) = some 2 := by decide +kernel
theorem pd_yX2_isBetween : (parseMethodDescriptor yX2_isBetween.desc).map (fun d => d.parameters.length) = some 3 := by decide +kernel
theorem pd_yX2_nextChange : (parseMethodDescriptor yX2_nextChange.desc).map (fun d => d.parameters.length) = some 1 := by decide +kernel
theorem pd_yX2_payFor : (parseMethodDescriptor yX2_payFor.desc).map (fun d => d.parameters.length) = some 1 := by decide +kernel
theorem pd_yX2_sumOver : (parseMethodDescriptor yX2_sumOver.desc).map (fun d => d.parameters.length) = some 2 := by decide +kernel
theorem pd_yX3_addFromIn : (parseMethodDescriptor yX3_addFromIn.desc).map (fun d => d.parameters.length) = some 2 := by decide +kernel
theorem pd_yX3_addFromLoneOut : (parseMethodDescriptor yX3_addFromLoneOut.desc).map (fun d => d.parameters.length) = some 2 := by decide +kernel
theorem pd_yX3_isIn : (parseMethodDescriptor yX3_isIn.desc).map (fun d => d.parameters.length) = some 2 := by decide +kernel
theorem pd_yX3_read : (parseMethodDescriptor yX3_read.desc).map (fun d => d.parameters.length) = some 1 := by decide +kernel
theorem pd_yX4_addSpan : (parseMethodDescriptor yX4_addSpan.desc).map (fun d => d.parameters.length) = some 2 := by decide +kernel
theorem pd_yX4_clear : (parseMethodDescriptor yX4_clear.desc).map (fun d => d.parameters.length) = some 0 := by decide +kernel
theorem pd_yX4_get : (parseMethodDescriptor yX4_get.desc).map (fun d => d.parameters.length) = some 2 := by decide +kernel
theorem pd_yX4_insert : (parseMethodDescriptor yX4_insert.desc).map (fun d => d.parameters.length) = some 1 := by decide +kernel
theorem pd_yX4_remove : (parseMethodDescriptor yX4_remove.desc).map (fun d => d.parameters.length) = some 1 := by decide +kernel
theorem pd_yX4_set : (parseMethodDescriptor yX4_set.desc).map (fun d => d.parameters.length) = some 3 := by decide +kernel
theorem pd_yX4_size : (parseMethodDescriptor yX4_size.desc).map (fun d => d.parameters.length) = some 0 := by decide +kernel
theorem pd_yX5_addEvent : (parseMethodDescriptor yX5_addEvent.desc).map (fun d => d.parameters.length) = some 3 := by decide +kernel
theorem pd_yX5_addEvents : (parseMethodDescriptor yX5_addEvents.desc).map (fun d => d.parameters.length) = some 3 := by decide +kernel
theorem pd_yX5_addWorked : (parseMethodDescriptor yX5_addWorked.desc).map (fun d => d.parameters.length) = some 2 := by decide +kernel
theorem pd_yX5_goThroughEvents : (parseMethodDescriptor yX5_goThroughEvents.desc).map (fun d => d.parameters.length) = some 0 := by decide +kernel
theorem pd_yX5_read : (parseMethodDescriptor yX5_read.desc).map (fun d => d.parameters.length) = some 1 := by decide +kernel
theorem pd_yX6_addByHand : (parseMethodDescriptor yX6_addByHand.desc).map (fun d => d.parameters.length) = some 4 := by decide +kernel
theorem pd_yX6_addPremium : (parseMethodDescriptor yX6_addPremium.desc).map (fun d => d.parameters.length) = some 4 := by decide +kernel
theorem pd_yX6_category : (parseMethodDescriptor yX6_category.desc).map (fun d => d.parameters.length) = some 2 := by decide +kernel
theorem pd_yX6_closeWeek : (parseMethodDescriptor yX6_closeWeek.desc).map (fun d => d.parameters.length) = some 1 := by decide +kernel
theorem pd_yX6_closedWeeks : (parseMethodDescriptor yX6_closedWeeks.desc).map (fun d => d.parameters.length) = some 1 := by decide +kernel
theorem pd_yX6_countContaining : (parseMethodDescriptor yX6_countContaining.desc).map (fun d => d.parameters.length) = some 2 := by decide +kernel
theorem pd_yX6_coverage : (parseMethodDescriptor yX6_coverage.desc).map (fun d => d.parameters.length) = some 2 := by decide +kernel
theorem pd_yX6_earned : (parseMethodDescriptor yX6_earned.desc).map (fun d => d.parameters.length) = some 1 := by decide +kernel
theorem pd_yX6_employees : (parseMethodDescriptor yX6_employees.desc).map (fun d => d.parameters.length) = some 0 := by decide +kernel
theorem pd_yX6_enter : (parseMethodDescriptor yX6_enter.desc).map (fun d => d.parameters.length) = some 3 := by decide +kernel
theorem pd_yX6_enterBreak : (parseMethodDescriptor yX6_enterBreak.desc).map (fun d => d.parameters.length) = some 3 := by decide +kernel
theorem pd_yX6_find : (parseMethodDescriptor yX6_find.desc).map (fun d => d.parameters.length) = some 1 := by decide +kernel
theorem pd_yX6_hire : (parseMethodDescriptor yX6_hire.desc).map (fun d => d.parameters.length) = some 1 := by decide +kernel
theorem pd_yX6_isPunchAt : (parseMethodDescriptor yX6_isPunchAt.desc).map (fun d => d.parameters.length) = some 3 := by decide +kernel
theorem pd_yX6_longest : (parseMethodDescriptor yX6_longest.desc).map (fun d => d.parameters.length) = some 1 := by decide +kernel
theorem pd_yX6_longestStretch : (parseMethodDescriptor yX6_longestStretch.desc).map (fun d => d.parameters.length) = some 1 := by decide +kernel
theorem pd_yX6_minutes : (parseMethodDescriptor yX6_minutes.desc).map (fun d => d.parameters.length) = some 3 := by decide +kernel
theorem pd_yX6_minutesOnDay : (parseMethodDescriptor yX6_minutesOnDay.desc).map (fun d => d.parameters.length) = some 2 := by decide +kernel
theorem pd_yX6_overlap : (parseMethodDescriptor yX6_overlap.desc).map (fun d => d.parameters.length) = some 1 := by decide +kernel
theorem pd_yX6_pay : (parseMethodDescriptor yX6_pay.desc).map (fun d => d.parameters.length) = some 1 := by decide +kernel
theorem pd_yX6_placeOfPunch : (parseMethodDescriptor yX6_placeOfPunch.desc).map (fun d => d.parameters.length) = some 2 := by decide +kernel
theorem pd_yX6_premiumPay : (parseMethodDescriptor yX6_premiumPay.desc).map (fun d => d.parameters.length) = some 1 := by decide +kernel
theorem pd_yX6_punch : (parseMethodDescriptor yX6_punch.desc).map (fun d => d.parameters.length) = some 3 := by decide +kernel
theorem pd_yX6_quarters : (parseMethodDescriptor yX6_quarters.desc).map (fun d => d.parameters.length) = some 3 := by decide +kernel
theorem pd_yX6_removeBreak : (parseMethodDescriptor yX6_removeBreak.desc).map (fun d => d.parameters.length) = some 2 := by decide +kernel
theorem pd_yX6_removeEntry : (parseMethodDescriptor yX6_removeEntry.desc).map (fun d => d.parameters.length) = some 2 := by decide +kernel
theorem pd_yX6_removeNumbered : (parseMethodDescriptor yX6_removeNumbered.desc).map (fun d => d.parameters.length) = some 2 := by decide +kernel
theorem pd_yX6_removePremium : (parseMethodDescriptor yX6_removePremium.desc).map (fun d => d.parameters.length) = some 1 := by decide +kernel
theorem pd_yX6_removePunch : (parseMethodDescriptor yX6_removePunch.desc).map (fun d => d.parameters.length) = some 2 := by decide +kernel
theorem pd_yX6_repairedShifts : (parseMethodDescriptor yX6_repairedShifts.desc).map (fun d => d.parameters.length) = some 1 := by decide +kernel
theorem pd_yX6_requireNumber : (parseMethodDescriptor yX6_requireNumber.desc).map (fun d => d.parameters.length) = some 2 := by decide +kernel
theorem pd_yX6_requireRoom : (parseMethodDescriptor yX6_requireRoom.desc).map (fun d => d.parameters.length) = some 2 := by decide +kernel
theorem pd_yX6_requireWithin : (parseMethodDescriptor yX6_requireWithin.desc).map (fun d => d.parameters.length) = some 3 := by decide +kernel
theorem pd_yX6_setWage : (parseMethodDescriptor yX6_setWage.desc).map (fun d => d.parameters.length) = some 2 := by decide +kernel
theorem pd_yX6_shiftBegin : (parseMethodDescriptor yX6_shiftBegin.desc).map (fun d => d.parameters.length) = some 2 := by decide +kernel
theorem pd_yX6_shiftEnd : (parseMethodDescriptor yX6_shiftEnd.desc).map (fun d => d.parameters.length) = some 2 := by decide +kernel
theorem pd_yX6_shifts : (parseMethodDescriptor yX6_shifts.desc).map (fun d => d.parameters.length) = some 1 := by decide +kernel
theorem pd_yX6_stretches : (parseMethodDescriptor yX6_stretches.desc).map (fun d => d.parameters.length) = some 1 := by decide +kernel
theorem pd_yX6_workedOn : (parseMethodDescriptor yX6_workedOn.desc).map (fun d => d.parameters.length) = some 2 := by decide +kernel
theorem pd_yX7_addPremium : (parseMethodDescriptor yX7_addPremium.desc).map (fun d => d.parameters.length) = some 4 := by decide +kernel
theorem pd_yX7_ahead : (parseMethodDescriptor yX7_ahead.desc).map (fun d => d.parameters.length) = some 2 := by decide +kernel
theorem pd_yX7_applies : (parseMethodDescriptor yX7_applies.desc).map (fun d => d.parameters.length) = some 2 := by decide +kernel
theorem pd_yX7_category : (parseMethodDescriptor yX7_category.desc).map (fun d => d.parameters.length) = some 2 := by decide +kernel
theorem pd_yX7_closeWeek : (parseMethodDescriptor yX7_closeWeek.desc).map (fun d => d.parameters.length) = some 1 := by decide +kernel
theorem pd_yX7_closedWeeks : (parseMethodDescriptor yX7_closedWeeks.desc).map (fun d => d.parameters.length) = some 1 := by decide +kernel
theorem pd_yX7_coverage : (parseMethodDescriptor yX7_coverage.desc).map (fun d => d.parameters.length) = some 2 := by decide +kernel
theorem pd_yX7_earned : (parseMethodDescriptor yX7_earned.desc).map (fun d => d.parameters.length) = some 1 := by decide +kernel
theorem pd_yX7_employees : (parseMethodDescriptor yX7_employees.desc).map (fun d => d.parameters.length) = some 0 := by decide +kernel
theorem pd_yX7_enter : (parseMethodDescriptor yX7_enter.desc).map (fun d => d.parameters.length) = some 3 := by decide +kernel
theorem pd_yX7_enterBreak : (parseMethodDescriptor yX7_enterBreak.desc).map (fun d => d.parameters.length) = some 3 := by decide +kernel
theorem pd_yX7_extra : (parseMethodDescriptor yX7_extra.desc).map (fun d => d.parameters.length) = some 0 := by decide +kernel
theorem pd_yX7_fails : (parseMethodDescriptor yX7_fails.desc).map (fun d => d.parameters.length) = some 1 := by decide +kernel
theorem pd_yX7_findsKinds : (parseMethodDescriptor yX7_findsKinds.desc).map (fun d => d.parameters.length) = some 0 := by decide +kernel
theorem pd_yX7_findsPaid : (parseMethodDescriptor yX7_findsPaid.desc).map (fun d => d.parameters.length) = some 0 := by decide +kernel
theorem pd_yX7_findsShares : (parseMethodDescriptor yX7_findsShares.desc).map (fun d => d.parameters.length) = some 0 := by decide +kernel
theorem pd_yX7_findsShifts : (parseMethodDescriptor yX7_findsShifts.desc).map (fun d => d.parameters.length) = some 1 := by decide +kernel
theorem pd_yX7_hasPunch : (parseMethodDescriptor yX7_hasPunch.desc).map (fun d => d.parameters.length) = some 2 := by decide +kernel
theorem pd_yX7_hire : (parseMethodDescriptor yX7_hire.desc).map (fun d => d.parameters.length) = some 1 := by decide +kernel
theorem pd_yX7_in : (parseMethodDescriptor yX7_in.desc).map (fun d => d.parameters.length) = some 3 := by decide +kernel
theorem pd_yX7_isOne : (parseMethodDescriptor yX7_isOne.desc).map (fun d => d.parameters.length) = some 1 := by decide +kernel
theorem pd_yX7_lays : (parseMethodDescriptor yX7_lays.desc).map (fun d => d.parameters.length) = some 1 := by decide +kernel
theorem pd_yX7_longestStretch : (parseMethodDescriptor yX7_longestStretch.desc).map (fun d => d.parameters.length) = some 1 := by decide +kernel
theorem pd_yX7_looks : (parseMethodDescriptor yX7_looks.desc).map (fun d => d.parameters.length) = some 1 := by decide +kernel
theorem pd_yX7_makes : (parseMethodDescriptor yX7_makes.desc).map (fun d => d.parameters.length) = some 3 := by decide +kernel
theorem pd_yX7_marks : (parseMethodDescriptor yX7_marks.desc).map (fun d => d.parameters.length) = some 3 := by decide +kernel
theorem pd_yX7_minutes : (parseMethodDescriptor yX7_minutes.desc).map (fun d => d.parameters.length) = some 3 := by decide +kernel
theorem pd_yX7_overlap : (parseMethodDescriptor yX7_overlap.desc).map (fun d => d.parameters.length) = some 1 := by decide +kernel
theorem pd_yX7_pay : (parseMethodDescriptor yX7_pay.desc).map (fun d => d.parameters.length) = some 1 := by decide +kernel
theorem pd_yX7_payOf : (parseMethodDescriptor yX7_payOf.desc).map (fun d => d.parameters.length) = some 1 := by decide +kernel
theorem pd_yX7_placeOf : (parseMethodDescriptor yX7_placeOf.desc).map (fun d => d.parameters.length) = some 2 := by decide +kernel
theorem pd_yX7_premiumPay : (parseMethodDescriptor yX7_premiumPay.desc).map (fun d => d.parameters.length) = some 1 := by decide +kernel
theorem pd_yX7_punch : (parseMethodDescriptor yX7_punch.desc).map (fun d => d.parameters.length) = some 3 := by decide +kernel
theorem pd_yX7_puts : (parseMethodDescriptor yX7_puts.desc).map (fun d => d.parameters.length) = some 6 := by decide +kernel
theorem pd_yX7_quarters : (parseMethodDescriptor yX7_quarters.desc).map (fun d => d.parameters.length) = some 3 := by decide +kernel
theorem pd_yX7_removeBreak : (parseMethodDescriptor yX7_removeBreak.desc).map (fun d => d.parameters.length) = some 2 := by decide +kernel
theorem pd_yX7_removeEntry : (parseMethodDescriptor yX7_removeEntry.desc).map (fun d => d.parameters.length) = some 2 := by decide +kernel
theorem pd_yX7_removePremium : (parseMethodDescriptor yX7_removePremium.desc).map (fun d => d.parameters.length) = some 1 := by decide +kernel
theorem pd_yX7_removePunch : (parseMethodDescriptor yX7_removePunch.desc).map (fun d => d.parameters.length) = some 2 := by decide +kernel
theorem pd_yX7_repairedShifts : (parseMethodDescriptor yX7_repairedShifts.desc).map (fun d => d.parameters.length) = some 1 := by decide +kernel
theorem pd_yX7_setWage : (parseMethodDescriptor yX7_setWage.desc).map (fun d => d.parameters.length) = some 2 := by decide +kernel
theorem pd_yX7_shiftBegin : (parseMethodDescriptor yX7_shiftBegin.desc).map (fun d => d.parameters.length) = some 2 := by decide +kernel
theorem pd_yX7_shiftEnd : (parseMethodDescriptor yX7_shiftEnd.desc).map (fun d => d.parameters.length) = some 2 := by decide +kernel
theorem pd_yX7_shifts : (parseMethodDescriptor yX7_shifts.desc).map (fun d => d.parameters.length) = some 1 := by decide +kernel
theorem pd_yX7_stretches : (parseMethodDescriptor yX7_stretches.desc).map (fun d => d.parameters.length) = some 1 := by decide +kernel
theorem pd_yX7_takes : (parseMethodDescriptor yX7_takes.desc).map (fun d => d.parameters.length) = some 5 := by decide +kernel
theorem pd_yX7_thrown : (parseMethodDescriptor yX7_thrown.desc).map (fun d => d.parameters.length) = some 0 := by decide +kernel
theorem pd_yX7_told : (parseMethodDescriptor yX7_told.desc).map (fun d => d.parameters.length) = some 4 := by decide +kernel
theorem pd_yX7_workedOn : (parseMethodDescriptor yX7_workedOn.desc).map (fun d => d.parameters.length) = some 2 := by decide +kernel
theorem arr_2 : arr 2 6 := ⟨by decide, fun _ _ _ _ _ => rfl⟩
theorem arr_3 : arr 3 6 := ⟨by decide, fun _ _ _ _ _ => rfl⟩
theorem arr_5 : arr 5 6 := ⟨by decide, fun _ _ _ _ _ => rfl⟩
theorem arr_6 : arr 6 246 := ⟨by decide, fun _ _ _ _ _ => rfl⟩
theorem arr_8 : arr 8 6 := ⟨by decide, fun _ _ _ _ _ => rfl⟩
theorem arr_9 : arr 9 120 := ⟨by decide, fun _ _ _ _ _ => rfl⟩
theorem arr_10 : arr 10 120 := ⟨by decide, fun _ _ _ _ _ => rfl⟩
theorem arr_11 : arr 11 6 := ⟨by decide, fun _ _ _ _ _ => rfl⟩
theorem arr_12 : arr 12 120 := ⟨by decide, fun _ _ _ _ _ => rfl⟩
theorem arr_13 : arr 13 120 := ⟨by decide, fun _ _ _ _ _ => rfl⟩
theorem arr_14 : arr 14 6 := ⟨by decide, fun _ _ _ _ _ => rfl⟩
theorem arr_15 : arr 15 6 := ⟨by decide, fun _ _ _ _ _ => rfl⟩
theorem arr_16 : arr 16 6 := ⟨by decide, fun _ _ _ _ _ => rfl⟩
theorem arr_17 : arr 17 6 := ⟨by decide, fun _ _ _ _ _ => rfl⟩
theorem arr_18 : arr 18 41 := ⟨by decide, fun _ _ _ _ _ => rfl⟩
theorem arr_19 : arr 19 41 := ⟨by decide, fun _ _ _ _ _ => rfl⟩
theorem arr_20 : arr 20 10081 := ⟨by decide, fun _ _ _ _ _ => rfl⟩
theorem arr_21 : arr 21 10081 := ⟨by decide, fun _ _ _ _ _ => rfl⟩
theorem arr_22 : arr 22 10080 := ⟨by decide, fun _ _ _ _ _ => rfl⟩
theorem arr_23 : arr 23 7 := ⟨by decide, fun _ _ _ _ _ => rfl⟩
theorem arr_24 : arr 24 7 := ⟨by decide, fun _ _ _ _ _ => rfl⟩
theorem arr_25 : arr 25 21 := ⟨by decide, fun _ _ _ _ _ => rfl⟩
theorem arr_26 : arr 26 21 := ⟨by decide, fun _ _ _ _ _ => rfl⟩
theorem arr_27 : arr 27 3 := ⟨by decide, fun _ _ _ _ _ => rfl⟩
theorem at_1 : ∀ w ∈ vx_atS RX6 204 eIAE ["java/lang/RuntimeException", "java/lang/Exception"], w ∈ lw_tbl ∧ (goodWord w = true ∨ xtra w = true) := by decide +kernel
theorem ot_1 : ∀ w ∈ vx_atS RX6 204 eIAE ["java/lang/RuntimeException", "java/lang/Exception"], vx_ot w = true := by decide +kernel
theorem at_2 : ∀ w ∈ vx_atS RX6 54 eISE ["java/lang/RuntimeException", "java/lang/Exception"], w ∈ lw_tbl ∧ (goodWord w = true ∨ xtra w = true) := by decide +kernel
theorem ot_2 : ∀ w ∈ vx_atS RX6 54 eISE ["java/lang/RuntimeException", "java/lang/Exception"], vx_ot w = true := by decide +kernel
theorem at_3 : ∀ w ∈ vx_atS RX6 199 eIOB ["java/lang/RuntimeException", "java/lang/Exception"], w ∈ lw_tbl ∧ (goodWord w = true ∨ xtra w = true) := by decide +kernel
theorem ot_3 : ∀ w ∈ vx_atS RX6 199 eIOB ["java/lang/RuntimeException", "java/lang/Exception"], vx_ot w = true := by decide +kernel
end
section
/-! the meanings of the methods, printed by program -/
def s_X4_size (M : Mem) (t : Nat) : Option (Int32) :=
  some (M t 2)

def s_X4_get (M : Mem) (t : Nat) (x1 : Int32) (x2 : Int32) : Option (Int32) :=
  if x1 < 0 then
    some 0
  else
    if (M t 2) ≤ x1 then
      some 0
    else
      if x2 < 0 then
        some 0
      else
        if x2 < (tw t) then
          bnd ((x1 * (tw t)) + x2) fun z1 : Int32 =>
          if z1 < 0 then
            some 0
          else
            if (nI (tl t)) ≤ z1 then
              some 0
            else
              (mrd (tl t) (M (t + 1)) z1).bind fun v2 =>
              some v2
        else
          some 0

def L_X4_insert_46 (t : Nat) (x1 : Int32) : Nat → Int32 → Mem → Option (Int32 × Mem)
  | 0, _, _ => none
  | f + 1, y2, M3 =>
    if y2 < ((x1 + 1) * (tw t)) then
      some (y2, M3)
    else
      (mrd (tl t) (M3 (t + 1)) (y2 - (tw t))).bind fun v4 =>
      (mwr (tl t) M3 (t + 1) y2 v4).bind fun M5 =>
      bnd (y2 + (-1)) fun z6 : Int32 =>
      L_X4_insert_46 t x1 f z6 M5

def s_X4_insert (M : Mem) (t : Nat) (x1 : Int32) : Option (Mem) :=
  if x1 < 0 then
    some M
  else
    if (M t 2) < x1 then
      some M
    else
      if (((M t 2) + 1) * (tw t)) ≤ (nI (tl t)) then
        bnd ((((M t 2) + 1) * (tw t)) - 1) fun z1 : Int32 =>
        (L_X4_insert_46 t x1 FU z1 M).bind fun p7 =>
        bnd (mst p7.2 t 2 ((p7.2 t 2) + 1)) fun M8 : Mem =>
        some M8
      else
        some M

def s_X4_set (M : Mem) (t : Nat) (x1 : Int32) (x2 : Int32) (x3 : Int32) : Option (Mem) :=
  if x1 < 0 then
    some M
  else
    if (M t 2) ≤ x1 then
      some M
    else
      if x2 < 0 then
        some M
      else
        if x2 < (tw t) then
          bnd ((x1 * (tw t)) + x2) fun z1 : Int32 =>
          if z1 < 0 then
            some M
          else
            if (nI (tl t)) ≤ z1 then
              some M
            else
              (mwr (tl t) M (t + 1) z1 x3).bind fun M2 =>
              some M2
        else
          some M

def L_X4_remove_39 (t : Nat) : Nat → Int32 → Mem → Option (Int32 × Mem)
  | 0, _, _ => none
  | f + 1, y2, M3 =>
    if ((M3 t 2) * (tw t)) ≤ y2 then
      some (y2, M3)
    else
      (mrd (tl t) (M3 (t + 1)) y2).bind fun v4 =>
      (mwr (tl t) M3 (t + 1) (y2 - (tw t)) v4).bind fun M5 =>
      bnd (y2 + 1) fun z6 : Int32 =>
      L_X4_remove_39 t f z6 M5

def s_X4_remove (M : Mem) (t : Nat) (x1 : Int32) : Option (Mem) :=
  if x1 < 0 then
    some M
  else
    if (M t 2) ≤ x1 then
      some M
    else
      if ((M t 2) * (tw t)) ≤ (nI (tl t)) then
        bnd ((x1 + 1) * (tw t)) fun z1 : Int32 =>
        (L_X4_remove_39 t FU z1 M).bind fun p7 =>
        bnd (mst p7.2 t 2 ((p7.2 t 2) - 1)) fun M8 : Mem =>
        some M8
      else
        some M

def s_X4_addSpan (M : Mem) (t : Nat) (x1 : Int32) (x2 : Int32) : Option (Mem) :=
  bnd (M t 2) fun z1 : Int32 =>
  (s_X4_insert M t z1).bind fun r2 =>
  (s_X4_set r2 t z1 0 x1).bind fun r3 =>
  (s_X4_set r3 t z1 1 x2).bind fun r4 =>
  some r4

def s_X4_clear (M : Mem) (t : Nat) : Option (Mem) :=
  bnd (mst M t 2 0) fun M1 : Mem =>
  some M1

def s_X0_beginNextWeek (M : Mem) (G : Mel) (e : Nat) (x1 : Int32) : Option (Mem × Mel) :=
  bnd (mstL G e 2 ((G e 2) + x1.toInt64)) fun G1 : Mel =>
  bnd (mst M e 1 ((M e 1) + 1)) fun M2 : Mem =>
  (s_X4_clear M2 (e + 1)).bind fun r3 =>
  (s_X4_clear r3 (e + 3)).bind fun r4 =>
  (s_X4_clear r4 (e + 5)).bind fun r5 =>
  some (r5, G1)

def s_X3_isIn (M : Mem) (t0 : Nat) (x1 : Int32) : Option (Int32) :=
  (s_X4_get M t0 x1 1).bind fun r1 =>
  if r1 = 1 then
    some 1
  else
    some 0

def s_X3_addFromIn (M : Mem) (t1 : Nat) (x2 : Int32) : Option (Mem) :=
  (s_X4_get M t1 x2 0).bind fun r1 =>
  (s_X4_size M t1).bind fun r2 =>
  bnd (α := Int32) (
    if (x2 + 1) < r2 then
      0
    else
      1) fun p4 =>
  Option.bind (α := Int32) (
    if p4 = 0 then
      (s_X4_get M t1 (x2 + 1) 0).bind fun r6 =>
      some r6
    else
      some 10080) fun p7 =>
  if p4 = 0 then
    (s_X3_isIn M t1 (x2 + 1)).bind fun r10 =>
    if r10 = 0 then
      (s_X4_addSpan M 44 r1 p7).bind fun r11 =>
      some r11
    else
      bnd (mst M 43 1 ((M 43 1) + 1)) fun M12 : Mem =>
      (s_X4_addSpan M12 44 r1 (if p7 < r1 + 480 then p7 else r1 + 480)).bind fun r13 =>
      some r13
  else
    bnd (mst M 43 1 ((M 43 1) + 1)) fun M8 : Mem =>
    (s_X4_addSpan M8 44 r1 (if p7 < r1 + 480 then p7 else r1 + 480)).bind fun r9 =>
    some r9

def s_X3_addFromLoneOut (M : Mem) (t1 : Nat) (x2 : Int32) : Option (Mem) :=
  (s_X4_get M t1 x2 0).bind fun r1 =>
  Option.bind (α := Int32) (
    if x2 = 0 then
      some 0
    else
      (s_X4_get M t1 (x2 - 1) 0).bind fun r3 =>
      some r3) fun p4 =>
  bnd (mst M 43 1 ((M 43 1) + 1)) fun M5 : Mem =>
  (s_X4_addSpan M5 44 (if r1 - 480 < p4 then p4 else r1 - 480) r1).bind fun r6 =>
  some r6

def L_X3_read_14 (t1 : Nat) : Nat → Int32 → Mem → Option (Int32 × Mem)
  | 0, _, _ => none
  | f + 1, y3, M4 =>
    (s_X4_size M4 t1).bind fun r5 =>
    if r5 ≤ y3 then
      some (y3, M4)
    else
      (s_X3_isIn M4 t1 y3).bind fun r6 =>
      Option.bind (α := Mem) (
        if r6 = 0 then
          (s_X3_isIn M4 t1 (y3 - 1)).bind fun r8 =>
          if r8 = 0 then
            (s_X3_addFromLoneOut M4 t1 y3).bind fun r9 =>
            some r9
          else
            some M4
        else
          (s_X3_addFromIn M4 t1 y3).bind fun r10 =>
          some r10) fun p11 =>
      bnd (y3 + 1) fun z12 : Int32 =>
      L_X3_read_14 t1 f z12 p11

def s_X3_read (M : Mem) (t1 : Nat) : Option (Mem) :=
  (s_X4_clear M 44).bind fun r1 =>
  bnd (mst r1 43 1 0) fun M2 : Mem =>
  (L_X3_read_14 t1 FU 0 M2).bind fun p13 =>
  some p13.2

def L_X5_addEvent_15 (M : Mem) (x1 : Int32) : Nat → Int32 → Int32 → Option (Int32 × Int32)
  | 0, _, _ => none
  | f + 1, y3, y4 =>
    if y4 < 0 then
      some (y3, y4)
    else
      (s_X4_get M 39 y4 0).bind fun r5 =>
      if r5 ≤ x1 then
        some (y3, y4)
      else
        bnd (y4 + (-1)) fun z6 : Int32 =>
        L_X5_addEvent_15 M x1 f y4 z6

def s_X5_addEvent (M : Mem) (x1 : Int32) (x2 : Int32) (x3 : Int32) : Option (Mem) :=
  (s_X4_size M 39).bind fun r1 =>
  bnd (r1 - 1) fun z2 : Int32 =>
  (L_X5_addEvent_15 M x1 FU r1 z2).bind fun p7 =>
  (s_X4_insert M 39 p7.1).bind fun r8 =>
  (s_X4_set r8 39 p7.1 0 x1).bind fun r9 =>
  (s_X4_set r9 39 p7.1 1 x2).bind fun r10 =>
  (s_X4_set r10 39 p7.1 2 x3).bind fun r11 =>
  some r11

def L_X5_addEvents_3 (t1 : Nat) (x2 : Int32) (x3 : Int32) : Nat → Int32 → Mem → Option (Int32 × Mem)
  | 0, _, _ => none
  | f + 1, y1, M2 =>
    (s_X4_size M2 t1).bind fun r3 =>
    if r3 ≤ y1 then
      some (y1, M2)
    else
      (s_X4_get M2 t1 y1 0).bind fun r4 =>
      (s_X5_addEvent M2 r4 x2 x3).bind fun r5 =>
      (s_X4_get r5 t1 y1 1).bind fun r6 =>
      (s_X5_addEvent r5 r6 (-x2) (-x3)).bind fun r7 =>
      bnd (y1 + 1) fun z8 : Int32 =>
      L_X5_addEvents_3 t1 x2 x3 f z8 r7

def s_X5_addEvents (M : Mem) (t1 : Nat) (x2 : Int32) (x3 : Int32) : Option (Mem) :=
  (L_X5_addEvents_3 t1 x2 x3 FU 0 M).bind fun p9 =>
  some p9.2

def s_X5_addWorked (M : Mem) (x1 : Int32) (x2 : Int32) : Option (Mem) :=
  (s_X4_size M 41).bind fun r1 =>
  bnd (r1 - 1) fun z2 : Int32 =>
  if z2 < 0 then
    (s_X4_addSpan M 41 x1 x2).bind fun r3 =>
    some r3
  else
    (s_X4_get M 41 z2 1).bind fun r4 =>
    if r4 = x1 then
      (s_X4_set M 41 z2 1 x2).bind fun r6 =>
      some r6
    else
      (s_X4_addSpan M 41 x1 x2).bind fun r5 =>
      some r5

def L_X5_goThroughEvents_21 : Nat → Int32 → Int32 → Int32 → Int32 → Mem → Option (Int32 × Int32 × Int32 × Int32 × Mem)
  | 0, _, _, _, _, _ => none
  | f + 1, y3, y4, y5, y6, M7 =>
    (s_X4_size M7 39).bind fun r8 =>
    if r8 ≤ y6 then
      some (y3, y4, y5, y6, M7)
    else
      (s_X4_get M7 39 y6 0).bind fun r9 =>
      bnd (α := Mem) (
        if y3 < 2 then
          M7
        else
          bnd (mst M7 38 3 ((M7 38 3) + (r9 - y5))) fun M11 : Mem =>
          M11) fun p12 =>
      Option.bind (α := Mem) (
        if r9 ≤ y5 then
          some p12
        else
          if y3 < 1 then
            some p12
          else
            if y4 = 0 then
              (s_X5_addWorked p12 y5 r9).bind fun r14 =>
              some r14
            else
              some p12) fun p15 =>
      (s_X4_get p15 39 y6 1).bind fun r16 =>
      bnd (y3 + r16) fun z17 : Int32 =>
      (s_X4_get p15 39 y6 2).bind fun r18 =>
      bnd (y4 + r18) fun z19 : Int32 =>
      bnd (y6 + 1) fun z20 : Int32 =>
      L_X5_goThroughEvents_21 f z17 z19 r9 z20 p15

def s_X5_goThroughEvents (M : Mem) : Option (Mem) :=
  (s_X4_clear M 41).bind fun r1 =>
  bnd (mst r1 38 3 0) fun M2 : Mem =>
  (L_X5_goThroughEvents_21 FU 0 0 0 0 M2).bind fun p21 =>
  some p21.2.2.2.2

def s_X5_read (M : Mem) (e1 : Nat) : Option (Mem) :=
  (s_X3_read M (e1 + 1)).bind fun r1 =>
  (s_X4_clear r1 39).bind fun r2 =>
  (s_X5_addEvents r2 44 1 0).bind fun r3 =>
  (s_X5_addEvents r3 (e1 + 3) 1 0).bind fun r4 =>
  (s_X5_addEvents r4 (e1 + 5) 0 1).bind fun r5 =>
  (s_X5_goThroughEvents r5).bind fun r6 =>
  some r6

def L_X1_takeOffAutomaticBreaks_9 (t1 : Nat) : Nat → Int32 → Mem → Option (Int32 × Mem)
  | 0, _, _ => none
  | f + 1, y2, M3 =>
    (s_X4_size M3 t1).bind fun r4 =>
    if r4 ≤ y2 then
      some (y2, M3)
    else
      (s_X4_get M3 t1 y2 0).bind fun r5 =>
      (s_X4_get M3 t1 y2 1).bind fun r6 =>
      (s_X4_addSpan M3 34 r5 (if r5 + 360 < r6 then r5 + 360 else r6)).bind fun r7 =>
      Option.bind (α := Mem) (
        if r6 ≤ (r5 + 390) then
          some r7
        else
          (s_X4_addSpan r7 34 (r5 + 390) r6).bind fun r9 =>
          some r9) fun p10 =>
      bnd (y2 + 1) fun z11 : Int32 =>
      L_X1_takeOffAutomaticBreaks_9 t1 f z11 p10

def s_X1_takeOffAutomaticBreaks (M : Mem) (t1 : Nat) : Option (Mem) :=
  (s_X4_clear M 34).bind fun r1 =>
  (L_X1_takeOffAutomaticBreaks_9 t1 FU 0 r1).bind fun p12 =>
  some p12.2

def L_X6_minutesOnDay_4 (M : Mem) (t0 : Nat) (x1 : Int32) : Nat → Int32 → Int32 → Option (Int32 × Int32)
  | 0, _, _ => none
  | f + 1, y1, y2 =>
    (s_X4_size M t0).bind fun r3 =>
    if r3 ≤ y2 then
      some (y1, y2)
    else
      (s_X4_get M t0 y2 0).bind fun r4 =>
      bnd (if r4 < x1 * 1440 then x1 * 1440 else r4) fun z5 : Int32 =>
      (s_X4_get M t0 y2 1).bind fun r6 =>
      bnd (if (x1 + 1) * 1440 < r6 then (x1 + 1) * 1440 else r6) fun z7 : Int32 =>
      bnd (y1 + (if z7 - z5 < 0 then 0 else z7 - z5)) fun z8 : Int32 =>
      bnd (y2 + 1) fun z9 : Int32 =>
      L_X6_minutesOnDay_4 M t0 x1 f z8 z9

def s_X6_minutesOnDay (M : Mem) (t0 : Nat) (x1 : Int32) : Option (Int32) :=
  (L_X6_minutesOnDay_4 M t0 x1 FU 0 0).bind fun p10 =>
  some p10.1

def L_X1_isFull_4 (M : Mem) : Nat → Int32 → Int32 → Option (Int32 × Int32)
  | 0, _, _ => none
  | f + 1, y1, y2 =>
    if 6 ≤ y2 then
      some (y1, y2)
    else
      Option.bind (α := Int32) (
        if y1 = 0 then
          some 0
        else
          (s_X6_minutesOnDay M 34 y2).bind fun r4 =>
          if r4 ≤ 0 then
            some 0
          else
            some 1) fun p5 =>
      bnd (y2 + 1) fun z6 : Int32 =>
      L_X1_isFull_4 M f p5 z6

def s_X1_isFull (M : Mem) : Option (Int32) :=
  (L_X1_isFull_4 M FU 1 0).bind fun p7 =>
  (bchk p7.1).bind fun v8 =>
  some v8

def s_X1_untilLimit (x0 : Int32) (x1 : Int32) : Option (Int32) :=
  bnd (α := Int32) (
    if 480 ≤ x0 then
      if 720 ≤ x0 then
        10080
      else
        bnd (720 - x0) fun z2 : Int32 =>
        z2
    else
      bnd (480 - x0) fun z3 : Int32 =>
      z3) fun p4 =>
  if 2400 ≤ x1 then
    some p4
  else
    some (if 2400 - x1 < p4 then 2400 - x1 else p4)

def s_X1_categoryFor (x0 : Int32) (x1 : Int32) (x2 : Int32) : Option (Int32) :=
  if 720 ≤ x0 then
    some 2
  else
    if x2 = 0 then
      if 480 ≤ x0 then
        some 1
      else
        if 2400 ≤ x1 then
          some 1
        else
          if x2 = 0 then
            some 0
          else
            some 1
    else
      if x0 < 480 then
        if 480 ≤ x0 then
          some 1
        else
          if 2400 ≤ x1 then
            some 1
          else
            if x2 = 0 then
              some 0
            else
              some 1
      else
        some 2

def L_X1_addParts_6 (x1 : Int32) (x2 : Int32) (x3 : Int32) (x4 : Int32) (x5 : Int32) : Nat → Int32 → Int32 → Mem → Option (Int32 × Int32 × Mem)
  | 0, _, _, _ => none
  | f + 1, y1, y2, M3 =>
    if 1440 ≤ y2 then
      some (y1, y2, M3)
    else
      if x2 ≤ y1 then
        some (y1, y2, M3)
      else
        bnd ((x3 + y1) - x1) fun z4 : Int32 =>
        bnd ((x4 + y1) - x1) fun z5 : Int32 =>
        (s_X1_untilLimit z4 z5).bind fun r6 =>
        bnd (if r6 < x2 - y1 then r6 else x2 - y1) fun z7 : Int32 =>
        (s_X4_size M3 36).bind fun r8 =>
        (s_X4_addSpan M3 36 y1 (y1 + z7)).bind fun r9 =>
        (s_X1_categoryFor z4 z5 x5).bind fun r10 =>
        (s_X4_set r9 36 r8 2 r10).bind fun r11 =>
        bnd (y1 + z7) fun z12 : Int32 =>
        bnd (y2 + 1) fun z13 : Int32 =>
        L_X1_addParts_6 x1 x2 x3 x4 x5 f z12 z13 r11

def s_X1_addParts (M : Mem) (x1 : Int32) (x2 : Int32) (x3 : Int32) (x4 : Int32) (x5 : Int32) : Option (Mem) :=
  (L_X1_addParts_6 x1 x2 x3 x4 x5 FU x1 0 M).bind fun p14 =>
  some p14.2.2

def L_X1_addPartsOfDay_6 (x1 : Int32) (x2 : Int32) (x3 : Int32) : Nat → Int32 → Int32 → Mem → Option (Int32 × Int32 × Mem)
  | 0, _, _, _ => none
  | f + 1, y1, y2, M3 =>
    (s_X4_size M3 34).bind fun r4 =>
    if r4 ≤ y2 then
      some (y1, y2, M3)
    else
      (s_X4_get M3 34 y2 0).bind fun r5 =>
      bnd (if r5 < x1 * 1440 then x1 * 1440 else r5) fun z6 : Int32 =>
      (s_X4_get M3 34 y2 1).bind fun r7 =>
      bnd (if (x1 + 1) * 1440 < r7 then (x1 + 1) * 1440 else r7) fun z8 : Int32 =>
      Option.bind (α := Int32 × Mem) (
        if z8 ≤ z6 then
          some (y1, M3)
        else
          (s_X1_addParts M3 z6 z8 y1 (x2 + y1) x3).bind fun r10 =>
          bnd (y1 + (z8 - z6)) fun z11 : Int32 =>
          some (z11, r10)) fun p12 =>
      bnd (y2 + 1) fun z13 : Int32 =>
      L_X1_addPartsOfDay_6 x1 x2 x3 f p12.1 z13 p12.2

def s_X1_addPartsOfDay (M : Mem) (x1 : Int32) (x2 : Int32) (x3 : Int32) : Option (Mem) :=
  (L_X1_addPartsOfDay_6 x1 x2 x3 FU 0 0 M).bind fun p14 =>
  some p14.2.2

def L_X1_read_36 (r4 : Int32) : Nat → Int32 → Int32 → Mem → Option (Int32 × Int32 × Mem)
  | 0, _, _, _ => none
  | f + 1, y5, y6, M7 =>
    if 7 ≤ y6 then
      some (y5, y6, M7)
    else
      bnd (α := Int32) (
        if r4 = 0 then
          0
        else
          if y6 = 6 then
            1
          else
            0) fun p9 =>
      (s_X1_addPartsOfDay M7 y6 y5 p9).bind fun r10 =>
      (s_X6_minutesOnDay r10 34 y6).bind fun r11 =>
      bnd (y5 + r11) fun z12 : Int32 =>
      bnd (y6 + 1) fun z13 : Int32 =>
      L_X1_read_36 r4 f z12 z13 r10

def s_X1_read (M : Mem) (e1 : Nat) : Option (Mem) :=
  (s_X5_read M e1).bind fun r1 =>
  (s_X1_takeOffAutomaticBreaks r1 41).bind fun r2 =>
  (s_X4_clear r2 36).bind fun r3 =>
  (s_X1_isFull r3).bind fun r4 =>
  (L_X1_read_36 r4 FU 0 0 r3).bind fun p14 =>
  some p14.2.2

def L_X1_minutesOf_5 (M : Mem) (x1 : Int32) (x2 : Int32) : Nat → Int32 → Int32 → Option (Int32 × Int32)
  | 0, _, _ => none
  | f + 1, y1, y2 =>
    (s_X4_size M 36).bind fun r3 =>
    if r3 ≤ y2 then
      some (y1, y2)
    else
      (s_X4_get M 36 y2 2).bind fun r4 =>
      Option.bind (α := Int32) (
        if r4 = x2 then
          (s_X4_get M 36 y2 0).bind fun r6 =>
          if (r6 / 1440) = x1 then
            (s_X4_get M 36 y2 1).bind fun r7 =>
            (s_X4_get M 36 y2 0).bind fun r8 =>
            bnd (y1 + (r7 - r8)) fun z9 : Int32 =>
            some z9
          else
            some y1
        else
          some y1) fun p10 =>
      bnd (y2 + 1) fun z11 : Int32 =>
      L_X1_minutesOf_5 M x1 x2 f p10 z11

def s_X1_minutesOf (M : Mem) (x1 : Int32) (x2 : Int32) : Option (Int32) :=
  (L_X1_minutesOf_5 M x1 x2 FU 0 0).bind fun p12 =>
  some p12.1

def L_X1_quartersOfWeek_4 (M : Mem) (x1 : Int32) : Nat → Int32 → Int32 → Option (Int32 × Int32)
  | 0, _, _ => none
  | f + 1, y1, y2 =>
    if 7 ≤ y2 then
      some (y1, y2)
    else
      (s_X1_minutesOf M y2 x1).bind fun r3 =>
      bnd (y1 + r3) fun z4 : Int32 =>
      bnd (y2 + 1) fun z5 : Int32 =>
      L_X1_quartersOfWeek_4 M x1 f z4 z5

def s_X1_quartersOfWeek (M : Mem) (x1 : Int32) : Option (Int32) :=
  (L_X1_quartersOfWeek_4 M x1 FU 0 0).bind fun p6 =>
  some ((p6.1 + 7) / 15)

def s_X1_basicPay (M : Mem) (x1 : Int32) : Option (Int32) :=
  (s_X1_quartersOfWeek M 0).bind fun r1 =>
  (s_X1_quartersOfWeek M 1).bind fun r2 =>
  (s_X1_quartersOfWeek M 2).bind fun r3 =>
  bnd (((2 * r1) + (3 * r2)) + (4 * r3)) fun z4 : Int32 =>
  some (((x1 * z4) + 4) / 8)

def L_X1_categoryAt_4 (M : Mem) (x1 : Int32) : Nat → Int32 → Int32 → Option (Int32 × Int32)
  | 0, _, _ => none
  | f + 1, y2, y3 =>
    (s_X4_size M 36).bind fun r4 =>
    if r4 ≤ y3 then
      some (y2, y3)
    else
      (s_X4_get M 36 y3 0).bind fun r5 =>
      Option.bind (α := Int32) (
        if x1 < r5 then
          some y2
        else
          (s_X4_get M 36 y3 1).bind fun r7 =>
          if r7 ≤ x1 then
            some y2
          else
            (s_X4_get M 36 y3 2).bind fun r8 =>
            some r8) fun p9 =>
      bnd (y3 + 1) fun z10 : Int32 =>
      L_X1_categoryAt_4 M x1 f p9 z10

def s_X1_categoryAt (M : Mem) (x1 : Int32) : Option (Int32) :=
  bnd ((-1)) fun z1 : Int32 =>
  (L_X1_categoryAt_4 M x1 FU z1 0).bind fun p11 =>
  some p11.1

def L_X1_quartersOf_20 (M : Mem) (x1 : Int32) (x2 : Int32) (r1 : Int32) : Nat → Int32 → Int32 → Int32 → Option (Int32 × Int32 × Int32)
  | 0, _, _, _ => none
  | f + 1, y3, y4, y5 =>
    if 7 ≤ y5 then
      some (y3, y4, y5)
    else
      (s_X1_minutesOf M y5 x2).bind fun r6 =>
      bnd ((r6 - r6 / 15 * 15) - (r1 - r1 / 15 * 15)) fun z7 : Int32 =>
      bnd (y3 - (r6 / 15)) fun z8 : Int32 =>
      bnd (α := Int32) (
        if 0 < z7 then
          bnd (y4 + 1) fun z10 : Int32 =>
          z10
        else
          if z7 = 0 then
            if x1 ≤ y5 then
              y4
            else
              bnd (y4 + 1) fun z11 : Int32 =>
              z11
          else
            y4) fun p12 =>
      bnd (y5 + 1) fun z13 : Int32 =>
      L_X1_quartersOf_20 M x1 x2 r1 f z8 p12 z13

def s_X1_quartersOf (M : Mem) (x1 : Int32) (x2 : Int32) : Option (Int32) :=
  (s_X1_minutesOf M x1 x2).bind fun r1 =>
  (s_X1_quartersOfWeek M x2).bind fun r2 =>
  (L_X1_quartersOf_20 M x1 x2 r1 FU r2 0 0).bind fun p14 =>
  bnd (α := Int32) (
    if p14.1 ≤ p14.2.1 then
      0
    else
      1) fun p16 =>
  some ((r1 / 15) + p16)

def s_X2_add (M : Mem) (x1 : Int32) (x2 : Int32) (x3 : Int32) (x4 : Int32) : Option (Int32 × Mem) :=
  (s_X4_size M 31).bind fun r1 =>
  (s_X4_insert M 31 r1).bind fun r2 =>
  (s_X4_set r2 31 r1 0 x1).bind fun r3 =>
  (s_X4_set r3 31 r1 1 x2).bind fun r4 =>
  (s_X4_set r4 31 r1 2 x3).bind fun r5 =>
  (s_X4_set r5 31 r1 3 x4).bind fun r6 =>
  some (r1, r6)

def L_X2_nextChange_6 (M : Mem) (x1 : Int32) : Nat → Int32 → Int32 → Option (Int32 × Int32)
  | 0, _, _ => none
  | f + 1, y1, y2 =>
    (s_X4_size M 31).bind fun r3 =>
    if r3 ≤ y2 then
      some (y1, y2)
    else
      (s_X4_get M 31 y2 1).bind fun r4 =>
      (s_X4_get M 31 y2 2).bind fun r5 =>
      bnd (α := Int32) (
        if r4 ≤ x1 then
          y1
        else
          (if r4 < y1 then r4 else y1)) fun p7 =>
      bnd (α := Int32) (
        if r5 ≤ x1 then
          p7
        else
          (if r5 < p7 then r5 else p7)) fun p9 =>
      bnd (y2 + 1) fun z10 : Int32 =>
      L_X2_nextChange_6 M x1 f p9 z10

def s_X2_nextChange (M : Mem) (x1 : Int32) : Option (Int32) :=
  (L_X2_nextChange_6 M x1 FU 1440 0).bind fun p11 =>
  some p11.1

def s_X2_isBetween (x0 : Int32) (x1 : Int32) (x2 : Int32) : Option (Int32) :=
  if x2 ≤ x1 then
    if x1 = x2 then
      some 1
    else
      if x1 ≤ x0 then
        some 1
      else
        if x2 ≤ x0 then
          some 0
        else
          some 1
  else
    if x0 < x1 then
      some 0
    else
      if x2 ≤ x0 then
        some 0
      else
        some 1

def L_X2_greatestRate_5 (M : Mem) (x1 : Int32) (x2 : Int32) : Nat → Int32 → Int32 → Option (Int32 × Int32)
  | 0, _, _ => none
  | f + 1, y1, y2 =>
    (s_X4_size M 31).bind fun r3 =>
    if r3 ≤ y2 then
      some (y1, y2)
    else
      (s_X4_get M 31 y2 0).bind fun r4 =>
      bnd (α := Int32) (
        if ((r4 >>> (x1 &&& 31)) &&& 1) = 1 then
          1
        else
          0) fun p6 =>
      Option.bind (α := Int32) (
        if p6 = 0 then
          some y1
        else
          (s_X4_get M 31 y2 1).bind fun r8 =>
          (s_X4_get M 31 y2 2).bind fun r9 =>
          (s_X2_isBetween x2 r8 r9).bind fun r10 =>
          if r10 = 0 then
            some y1
          else
            (s_X4_get M 31 y2 3).bind fun r11 =>
            bnd (if y1 < r11 then r11 else y1) fun z12 : Int32 =>
            some z12) fun p13 =>
      bnd (y2 + 1) fun z14 : Int32 =>
      L_X2_greatestRate_5 M x1 x2 f p13 z14

def s_X2_greatestRate (M : Mem) (x1 : Int32) (x2 : Int32) : Option (Int32) :=
  (L_X2_greatestRate_5 M x1 x2 FU 0 0).bind fun p15 =>
  some p15.1

def L_X2_sumOver_8 (M : Mem) (x2 : Int32) : Nat → Int32 → Int32 → Int32 → Option (Int32 × Int32 × Int32)
  | 0, _, _, _ => none
  | f + 1, y1, y2, y3 =>
    if 1440 ≤ y3 then
      some (y1, y2, y3)
    else
      if x2 ≤ y2 then
        some (y1, y2, y3)
      else
        bnd (y2 / 1440) fun z4 : Int32 =>
        (s_X2_nextChange M (y2 - y2 / 1440 * 1440)).bind fun r5 =>
        bnd (if (z4 * 1440) + r5 < x2 then (z4 * 1440) + r5 else x2) fun z6 : Int32 =>
        (s_X2_greatestRate M z4 (y2 - y2 / 1440 * 1440)).bind fun r7 =>
        bnd (y1 + (r7 * (z6 - y2))) fun z8 : Int32 =>
        bnd (y3 + 1) fun z9 : Int32 =>
        L_X2_sumOver_8 M x2 f z8 z6 z9

def s_X2_sumOver (M : Mem) (x1 : Int32) (x2 : Int32) : Option (Int32) :=
  (L_X2_sumOver_8 M x2 FU 0 x1 0).bind fun p10 =>
  some p10.1

def L_X2_payFor_4 (M : Mem) (t1 : Nat) : Nat → Int32 → Int32 → Option (Int32 × Int32)
  | 0, _, _ => none
  | f + 1, y1, y2 =>
    (s_X4_size M t1).bind fun r3 =>
    if r3 ≤ y2 then
      some (y1, y2)
    else
      (s_X4_get M t1 y2 0).bind fun r4 =>
      (s_X4_get M t1 y2 1).bind fun r5 =>
      (s_X2_sumOver M r4 r5).bind fun r6 =>
      bnd (y1 + r6) fun z7 : Int32 =>
      bnd (y2 + 1) fun z8 : Int32 =>
      L_X2_payFor_4 M t1 f z7 z8

def s_X2_payFor (M : Mem) (t1 : Nat) : Option (Int32) :=
  (L_X2_payFor_4 M t1 FU 0 0).bind fun p9 =>
  some ((p9.1 + 30) / 60)

def s_X6_requireWithin (x0 : Int32) (x1 : Int32) (x2 : Int32) : Option (Nat) :=
  if x0 < x1 then
    some 1
  else
    if x0 ≤ x2 then
      some 0
    else
      some 1

def s_X6_find (hn : Nat) (x1 : Int32) : Option (Nat × Nat) :=
  if x1 < 0 then
    some (3, 0)
  else
    if (nI hn) ≤ x1 then
      some (3, 0)
    else
      if x1 < 6 then
        (mrs hn x1).bind fun u1 =>
        some (0, u1)
      else
        some (3, 0)

def s_X6_setWage (M : Mem) (hn : Nat) (x1 : Int32) (x2 : Int32) : Option (Nat × Int32 × Mem) :=
  (s_X6_find hn x1).bind fun r1 =>
  if ¬ r1.1 = 0 then some (r1.1, 0, M) else
  (s_X6_requireWithin x2 1 100000).bind fun r2 =>
  if ¬ r2 = 0 then some (r2, 0, M) else
  bnd (M r1.2 0) fun z3 : Int32 =>
  bnd (mst M r1.2 0 x2) fun M4 : Mem =>
  some (0, z3, M4)

def s_X6_requireRoom (M : Mem) (t0 : Nat) (x1 : Int32) : Option (Nat) :=
  (s_X4_size M t0).bind fun r1 =>
  if r1 < x1 then
    some 0
  else
    some 2

def L_X6_placeOfPunch_4 (M : Mem) (t0 : Nat) (x1 : Int32) : Nat → Int32 → Int32 → Option (Int32 × Int32)
  | 0, _, _ => none
  | f + 1, y1, y2 =>
    (s_X4_size M t0).bind fun r3 =>
    if r3 ≤ y2 then
      some (y1, y2)
    else
      (s_X4_get M t0 y2 0).bind fun r4 =>
      bnd (α := Int32) (
        if x1 ≤ r4 then
          y1
        else
          bnd (y2 + 1) fun z6 : Int32 =>
          z6) fun p7 =>
      bnd (y2 + 1) fun z8 : Int32 =>
      L_X6_placeOfPunch_4 M t0 x1 f p7 z8

def s_X6_placeOfPunch (M : Mem) (t0 : Nat) (x1 : Int32) : Option (Int32) :=
  (L_X6_placeOfPunch_4 M t0 x1 FU 0 0).bind fun p9 =>
  some p9.1

def s_X6_isPunchAt (M : Mem) (t0 : Nat) (x1 : Int32) (x2 : Int32) : Option (Int32) :=
  (s_X4_size M t0).bind fun r1 =>
  if r1 ≤ x1 then
    some 0
  else
    (s_X4_get M t0 x1 0).bind fun r2 =>
    if r2 = x2 then
      some 1
    else
      some 0

def s_X6_punch (M : Mem) (hn : Nat) (x1 : Int32) (x2 : Int32) (x3 : Int32) : Option (Nat × Int32 × Mem) :=
  (s_X6_find hn x1).bind fun r1 =>
  if ¬ r1.1 = 0 then some (r1.1, 0, M) else
  (s_X6_requireWithin x2 0 10080).bind fun r2 =>
  if ¬ r2 = 0 then some (r2, 0, M) else
  (s_X6_requireRoom M (r1.2 + 1) 40).bind fun r3 =>
  if ¬ r3 = 0 then some (r3, 0, M) else
  (s_X6_placeOfPunch M (r1.2 + 1) x2).bind fun r4 =>
  (s_X6_isPunchAt M (r1.2 + 1) r4 x2).bind fun r5 =>
  if r5 = 0 then
    (s_X4_insert M (r1.2 + 1) r4).bind fun r6 =>
    (s_X4_set r6 (r1.2 + 1) r4 0 x2).bind fun r7 =>
    bnd (α := Int32) (
      if x3 = 0 then
        0
      else
        1) fun p9 =>
    (s_X4_set r7 (r1.2 + 1) r4 1 p9).bind fun r10 =>
    (s_X4_size r10 (r1.2 + 1)).bind fun r11 =>
    some (0, r11, r10)
  else
    some (2, 0, M)

def s_X6_removePunch (M : Mem) (hn : Nat) (x1 : Int32) (x2 : Int32) : Option (Nat × Int32 × Mem) :=
  (s_X6_find hn x1).bind fun r1 =>
  if ¬ r1.1 = 0 then some (r1.1, 0, M) else
  (s_X6_placeOfPunch M (r1.2 + 1) x2).bind fun r2 =>
  (s_X6_isPunchAt M (r1.2 + 1) r2 x2).bind fun r3 =>
  if r3 = 0 then
    some (4, 0, M)
  else
    (s_X4_get M (r1.2 + 1) r2 1).bind fun r4 =>
    bnd (α := Int32) (
      if r4 = 1 then
        1
      else
        0) fun p6 =>
    (s_X4_remove M (r1.2 + 1) r2).bind fun r7 =>
    (bchk p6).bind fun v8 =>
    some (0, v8, r7)

def s_X6_addByHand (M : Mem) (t0 : Nat) (x1 : Int32) (x2 : Int32) (x3 : Int32) : Option (Nat × Int32 × Mem) :=
  (s_X6_requireWithin x1 0 10079).bind fun r1 =>
  if ¬ r1 = 0 then some (r1, 0, M) else
  (s_X6_requireWithin x2 (x1 + 1) 10080).bind fun r2 =>
  if ¬ r2 = 0 then some (r2, 0, M) else
  (s_X6_requireRoom M t0 x3).bind fun r3 =>
  if ¬ r3 = 0 then some (r3, 0, M) else
  (s_X4_addSpan M t0 x1 x2).bind fun r4 =>
  (s_X4_size r4 t0).bind fun r5 =>
  some (0, r5 - 1, r4)

def s_X6_enter (M : Mem) (hn : Nat) (x1 : Int32) (x2 : Int32) (x3 : Int32) : Option (Nat × Int32 × Mem) :=
  (s_X6_find hn x1).bind fun r1 =>
  if ¬ r1.1 = 0 then some (r1.1, 0, M) else
  (s_X6_addByHand M (r1.2 + 3) x2 x3 20).bind fun r2 =>
  if ¬ r2.1 = 0 then some (r2.1, 0, r2.2.2) else
  some (0, r2.2.1, r2.2.2)

def s_X6_requireNumber (M : Mem) (t0 : Nat) (x1 : Int32) : Option (Nat) :=
  if x1 < 0 then
    some 3
  else
    (s_X4_size M t0).bind fun r1 =>
    if x1 < r1 then
      some 0
    else
      some 3

def s_X6_removeNumbered (M : Mem) (t0 : Nat) (x1 : Int32) : Option (Nat × Int32 × Mem) :=
  (s_X6_requireNumber M t0 x1).bind fun r1 =>
  if ¬ r1 = 0 then some (r1, 0, M) else
  (s_X4_remove M t0 x1).bind fun r2 =>
  (s_X4_size r2 t0).bind fun r3 =>
  some (0, r3, r2)

def s_X6_removeEntry (M : Mem) (hn : Nat) (x1 : Int32) (x2 : Int32) : Option (Nat × Int32 × Mem) :=
  (s_X6_find hn x1).bind fun r1 =>
  if ¬ r1.1 = 0 then some (r1.1, 0, M) else
  (s_X6_removeNumbered M (r1.2 + 3) x2).bind fun r2 =>
  if ¬ r2.1 = 0 then some (r2.1, 0, r2.2.2) else
  some (0, r2.2.1, r2.2.2)

def s_X6_enterBreak (M : Mem) (hn : Nat) (x1 : Int32) (x2 : Int32) (x3 : Int32) : Option (Nat × Int32 × Mem) :=
  (s_X6_find hn x1).bind fun r1 =>
  if ¬ r1.1 = 0 then some (r1.1, 0, M) else
  (s_X6_addByHand M (r1.2 + 5) x2 x3 20).bind fun r2 =>
  if ¬ r2.1 = 0 then some (r2.1, 0, r2.2.2) else
  some (0, r2.2.1, r2.2.2)

def s_X6_removeBreak (M : Mem) (hn : Nat) (x1 : Int32) (x2 : Int32) : Option (Nat × Int32 × Mem) :=
  (s_X6_find hn x1).bind fun r1 =>
  if ¬ r1.1 = 0 then some (r1.1, 0, M) else
  (s_X6_removeNumbered M (r1.2 + 5) x2).bind fun r2 =>
  if ¬ r2.1 = 0 then some (r2.1, 0, r2.2.2) else
  some (0, r2.2.1, r2.2.2)

def s_X6_addPremium (M : Mem) (x1 : Int32) (x2 : Int32) (x3 : Int32) (x4 : Int32) : Option (Nat × Int32 × Mem) :=
  (s_X6_requireWithin x1 1 127).bind fun r1 =>
  if ¬ r1 = 0 then some (r1, 0, M) else
  (s_X6_requireWithin x2 0 1439).bind fun r2 =>
  if ¬ r2 = 0 then some (r2, 0, M) else
  (s_X6_requireWithin x3 0 1439).bind fun r3 =>
  if ¬ r3 = 0 then some (r3, 0, M) else
  (s_X6_requireWithin x4 1 10000).bind fun r4 =>
  if ¬ r4 = 0 then some (r4, 0, M) else
  (s_X6_requireRoom M 31 6).bind fun r5 =>
  if ¬ r5 = 0 then some (r5, 0, M) else
  (s_X2_add M x1 x2 x3 x4).bind fun r6 =>
  some (0, r6.1, r6.2)

def s_X6_removePremium (M : Mem) (x1 : Int32) : Option (Nat × Int32 × Mem) :=
  (s_X6_removeNumbered M 31 x1).bind fun r1 =>
  if ¬ r1.1 = 0 then some (r1.1, 0, r1.2.2) else
  some (0, r1.2.1, r1.2.2)

def s_X6_closeWeek (M : Mem) (G : Mel) (hn : Nat) (x1 : Int32) : Option (Nat × Int32 × Mem × Mel) :=
  (s_X6_find hn x1).bind fun r1 =>
  if ¬ r1.1 = 0 then some (r1.1, 0, M, G) else
  (s_X4_size M (r1.2 + 1)).bind fun r2 =>
  if r2 = 0 then
    (s_X4_size M (r1.2 + 3)).bind fun r8 =>
    if r8 = 0 then
      some (2, 0, M, G)
    else
      (s_X1_read M r1.2).bind fun r9 =>
      (s_X1_basicPay r9 (r9 r1.2 0)).bind fun r10 =>
      (s_X2_payFor r9 36).bind fun r11 =>
      bnd (r10 + r11) fun z12 : Int32 =>
      (s_X0_beginNextWeek r9 G r1.2 z12).bind fun r13 =>
      some (0, z12, r13.1, r13.2)
  else
    (s_X1_read M r1.2).bind fun r3 =>
    (s_X1_basicPay r3 (r3 r1.2 0)).bind fun r4 =>
    (s_X2_payFor r3 36).bind fun r5 =>
    bnd (r4 + r5) fun z6 : Int32 =>
    (s_X0_beginNextWeek r3 G r1.2 z6).bind fun r7 =>
    some (0, z6, r7.1, r7.2)

def s_X6_employees (hn : Nat) : Option (Int32) :=
  some (nI hn)

def s_X6_closedWeeks (M : Mem) (hn : Nat) (x1 : Int32) : Option (Nat × Int32) :=
  (s_X6_find hn x1).bind fun r1 =>
  if ¬ r1.1 = 0 then some (r1.1, 0) else
  some (0, M r1.2 1)

def s_X6_earned (G : Mel) (hn : Nat) (x1 : Int32) : Option (Nat × Int64) :=
  (s_X6_find hn x1).bind fun r1 =>
  if ¬ r1.1 = 0 then some (r1.1, 0) else
  some (0, G r1.2 2)

def s_X6_shifts (M : Mem) (hn : Nat) (x1 : Int32) : Option (Nat × Int32 × Mem) :=
  (s_X6_find hn x1).bind fun r1 =>
  if ¬ r1.1 = 0 then some (r1.1, 0, M) else
  (s_X3_read M (r1.2 + 1)).bind fun r2 =>
  (s_X4_size r2 44).bind fun r3 =>
  some (0, r3, r2)

def s_X6_shiftBegin (M : Mem) (hn : Nat) (x1 : Int32) (x2 : Int32) : Option (Nat × Int32 × Mem) :=
  (s_X6_find hn x1).bind fun r1 =>
  if ¬ r1.1 = 0 then some (r1.1, 0, M) else
  (s_X3_read M (r1.2 + 1)).bind fun r2 =>
  (s_X6_requireNumber r2 44 x2).bind fun r3 =>
  if ¬ r3 = 0 then some (r3, 0, r2) else
  (s_X4_get r2 44 x2 0).bind fun r4 =>
  some (0, r4, r2)

def s_X6_shiftEnd (M : Mem) (hn : Nat) (x1 : Int32) (x2 : Int32) : Option (Nat × Int32 × Mem) :=
  (s_X6_find hn x1).bind fun r1 =>
  if ¬ r1.1 = 0 then some (r1.1, 0, M) else
  (s_X3_read M (r1.2 + 1)).bind fun r2 =>
  (s_X6_requireNumber r2 44 x2).bind fun r3 =>
  if ¬ r3 = 0 then some (r3, 0, r2) else
  (s_X4_get r2 44 x2 1).bind fun r4 =>
  some (0, r4, r2)

def s_X6_repairedShifts (M : Mem) (hn : Nat) (x1 : Int32) : Option (Nat × Int32 × Mem) :=
  (s_X6_find hn x1).bind fun r1 =>
  if ¬ r1.1 = 0 then some (r1.1, 0, M) else
  (s_X3_read M (r1.2 + 1)).bind fun r2 =>
  some (0, r2 43 1, r2)

def L_X6_countContaining_4 (M : Mem) (t0 : Nat) (x1 : Int32) : Nat → Int32 → Int32 → Option (Int32 × Int32)
  | 0, _, _ => none
  | f + 1, y1, y2 =>
    (s_X4_size M t0).bind fun r3 =>
    if r3 ≤ y2 then
      some (y1, y2)
    else
      (s_X4_get M t0 y2 0).bind fun r4 =>
      Option.bind (α := Int32) (
        if x1 < r4 then
          some y1
        else
          (s_X4_get M t0 y2 1).bind fun r6 =>
          if r6 ≤ x1 then
            some y1
          else
            bnd (y1 + 1) fun z7 : Int32 =>
            some z7) fun p8 =>
      bnd (y2 + 1) fun z9 : Int32 =>
      L_X6_countContaining_4 M t0 x1 f p8 z9

def s_X6_countContaining (M : Mem) (t0 : Nat) (x1 : Int32) : Option (Int32) :=
  (L_X6_countContaining_4 M t0 x1 FU 0 0).bind fun p10 =>
  some p10.1

def s_X6_coverage (M : Mem) (hn : Nat) (x1 : Int32) (x2 : Int32) : Option (Nat × Int32 × Mem) :=
  (s_X6_find hn x1).bind fun r1 =>
  if ¬ r1.1 = 0 then some (r1.1, 0, M) else
  (s_X6_requireWithin x2 0 10079).bind fun r2 =>
  if ¬ r2 = 0 then some (r2, 0, M) else
  (s_X3_read M (r1.2 + 1)).bind fun r3 =>
  (s_X6_countContaining r3 44 x2).bind fun r4 =>
  (s_X6_countContaining r3 (r1.2 + 3) x2).bind fun r5 =>
  some (0, r4 + r5, r3)

def s_X6_overlap (M : Mem) (hn : Nat) (x1 : Int32) : Option (Nat × Int32 × Mem) :=
  (s_X6_find hn x1).bind fun r1 =>
  if ¬ r1.1 = 0 then some (r1.1, 0, M) else
  (s_X5_read M r1.2).bind fun r2 =>
  some (0, r2 38 3, r2)

def s_X6_workedOn (M : Mem) (hn : Nat) (x1 : Int32) (x2 : Int32) : Option (Nat × Int32 × Mem) :=
  (s_X6_find hn x1).bind fun r1 =>
  if ¬ r1.1 = 0 then some (r1.1, 0, M) else
  (s_X6_requireWithin x2 0 6).bind fun r2 =>
  if ¬ r2 = 0 then some (r2, 0, M) else
  (s_X5_read M r1.2).bind fun r3 =>
  (s_X6_minutesOnDay r3 41 x2).bind fun r4 =>
  some (0, r4, r3)

def s_X6_stretches (M : Mem) (hn : Nat) (x1 : Int32) : Option (Nat × Int32 × Mem) :=
  (s_X6_find hn x1).bind fun r1 =>
  if ¬ r1.1 = 0 then some (r1.1, 0, M) else
  (s_X5_read M r1.2).bind fun r2 =>
  (s_X4_size r2 41).bind fun r3 =>
  some (0, r3, r2)

def L_X6_longest_4 (M : Mem) (t0 : Nat) : Nat → Int32 → Int32 → Option (Int32 × Int32)
  | 0, _, _ => none
  | f + 1, y1, y2 =>
    (s_X4_size M t0).bind fun r3 =>
    if r3 ≤ y2 then
      some (y1, y2)
    else
      (s_X4_get M t0 y2 1).bind fun r4 =>
      (s_X4_get M t0 y2 0).bind fun r5 =>
      bnd (if y1 < r4 - r5 then r4 - r5 else y1) fun z6 : Int32 =>
      bnd (y2 + 1) fun z7 : Int32 =>
      L_X6_longest_4 M t0 f z6 z7

def s_X6_longest (M : Mem) (t0 : Nat) : Option (Int32) :=
  (L_X6_longest_4 M t0 FU 0 0).bind fun p8 =>
  some p8.1

def s_X6_longestStretch (M : Mem) (hn : Nat) (x1 : Int32) : Option (Nat × Int32 × Mem) :=
  (s_X6_find hn x1).bind fun r1 =>
  if ¬ r1.1 = 0 then some (r1.1, 0, M) else
  (s_X5_read M r1.2).bind fun r2 =>
  (s_X6_longest r2 41).bind fun r3 =>
  some (0, r3, r2)

def s_X6_category (M : Mem) (hn : Nat) (x1 : Int32) (x2 : Int32) : Option (Nat × Int32 × Mem) :=
  (s_X6_find hn x1).bind fun r1 =>
  if ¬ r1.1 = 0 then some (r1.1, 0, M) else
  (s_X6_requireWithin x2 0 10079).bind fun r2 =>
  if ¬ r2 = 0 then some (r2, 0, M) else
  (s_X1_read M r1.2).bind fun r3 =>
  (s_X1_categoryAt r3 x2).bind fun r4 =>
  some (0, r4, r3)

def s_X6_minutes (M : Mem) (hn : Nat) (x1 : Int32) (x2 : Int32) (x3 : Int32) : Option (Nat × Int32 × Mem) :=
  (s_X6_find hn x1).bind fun r1 =>
  if ¬ r1.1 = 0 then some (r1.1, 0, M) else
  (s_X6_requireWithin x2 0 6).bind fun r2 =>
  if ¬ r2 = 0 then some (r2, 0, M) else
  (s_X6_requireWithin x3 0 2).bind fun r3 =>
  if ¬ r3 = 0 then some (r3, 0, M) else
  (s_X1_read M r1.2).bind fun r4 =>
  (s_X1_minutesOf r4 x2 x3).bind fun r5 =>
  some (0, r5, r4)

def s_X6_quarters (M : Mem) (hn : Nat) (x1 : Int32) (x2 : Int32) (x3 : Int32) : Option (Nat × Int32 × Mem) :=
  (s_X6_find hn x1).bind fun r1 =>
  if ¬ r1.1 = 0 then some (r1.1, 0, M) else
  (s_X6_requireWithin x2 0 6).bind fun r2 =>
  if ¬ r2 = 0 then some (r2, 0, M) else
  (s_X6_requireWithin x3 0 2).bind fun r3 =>
  if ¬ r3 = 0 then some (r3, 0, M) else
  (s_X1_read M r1.2).bind fun r4 =>
  (s_X1_quartersOf r4 x2 x3).bind fun r5 =>
  some (0, r5, r4)

def s_X6_premiumPay (M : Mem) (hn : Nat) (x1 : Int32) : Option (Nat × Int32 × Mem) :=
  (s_X6_find hn x1).bind fun r1 =>
  if ¬ r1.1 = 0 then some (r1.1, 0, M) else
  (s_X1_read M r1.2).bind fun r2 =>
  (s_X2_payFor r2 36).bind fun r3 =>
  some (0, r3, r2)

def s_X6_pay (M : Mem) (hn : Nat) (x1 : Int32) : Option (Nat × Int32 × Mem) :=
  (s_X6_find hn x1).bind fun r1 =>
  if ¬ r1.1 = 0 then some (r1.1, 0, M) else
  (s_X1_read M r1.2).bind fun r2 =>
  (s_X1_basicPay r2 (r2 r1.2 0)).bind fun r3 =>
  (s_X2_payFor r2 36).bind fun r4 =>
  some (0, r3 + r4, r2)

def s_X7_in (x0 : Int32) (x1 : Int32) (x2 : Int32) : Option (Int32) :=
  if x0 < x1 then
    some 0
  else
    if x2 < x0 then
      some 0
    else
      some 1

def s_X7_hire (M : Mem) (x1 : Int32) : Option (Int32 × Mem) :=
  (s_X7_in x1 1 100000).bind fun r1 =>
  bnd (α := Int32) (
    if r1 = 0 then
      1
    else
      if (M 1 1) = 6 then
        2
      else
        0) fun p3 =>
  bnd (mst M 1 0 p3) fun M4 : Mem =>
  if (M4 1 0) ≤ 0 then
    (mwr 6 M4 2 (M4 1 1) x1).bind fun M5 =>
    bnd (mst M5 1 1 ((M5 1 1) + 1)) fun M6 : Mem =>
    some ((M6 1 1) - 1, M6)
  else
    some (0, M4)

def s_X7_thrown (M : Mem) : Option (Int32) :=
  some (M 1 0)

def s_X7_isOne (M : Mem) (x1 : Int32) : Option (Int32) :=
  (s_X7_in x1 0 ((M 1 1) - 1)).bind fun r1 =>
  (bchk r1).bind fun v2 =>
  some v2

def s_X7_setWage (M : Mem) (x1 : Int32) (x2 : Int32) : Option (Int32 × Mem) :=
  (s_X7_isOne M x1).bind fun r1 =>
  Option.bind (α := Int32) (
    if r1 = 0 then
      some 1
    else
      (s_X7_in x2 1 100000).bind fun r3 =>
      if r3 = 0 then
        some 2
      else
        some 0) fun p4 =>
  bnd (mst M 1 0 p4) fun M5 : Mem =>
  if (M5 1 0) ≤ 0 then
    (mrd 6 (M5 2) x1).bind fun v6 =>
    (mwr 6 M5 2 x1 x2).bind fun M7 =>
    some (v6, M7)
  else
    some (0, M5)

def L_X7_placeOf_2 (M : Mem) (x1 : Int32) (x2 : Int32) : Nat → Int32 → Option (Int32)
  | 0, _ => none
  | f + 1, y1 =>
    (mrd 6 (M 5) x1).bind fun v2 =>
    if v2 ≤ y1 then
      some y1
    else
      (mrd 246 (M 6) ((41 * x1) + y1)).bind fun v3 =>
      if x2 ≤ v3 then
        some y1
      else
        bnd (y1 + 1) fun z4 : Int32 =>
        L_X7_placeOf_2 M x1 x2 f z4

def s_X7_placeOf (M : Mem) (x1 : Int32) (x2 : Int32) : Option (Int32) :=
  (L_X7_placeOf_2 M x1 x2 FU 0).bind fun p5 =>
  some p5

def s_X7_hasPunch (M : Mem) (x1 : Int32) (x2 : Int32) : Option (Int32) :=
  (s_X7_placeOf M x1 x2).bind fun r1 =>
  (mrd 6 (M 5) x1).bind fun v2 =>
  if v2 ≤ r1 then
    some 0
  else
    (mrd 246 (M 6) ((41 * x1) + r1)).bind fun v3 =>
    if v3 = x2 then
      some 1
    else
      some 0

def L_X7_punch_81 (x1 : Int32) (r8 : Int32) : Nat → Int32 → Mem → Option (Int32 × Mem)
  | 0, _, _ => none
  | f + 1, y10, M11 =>
    if y10 ≤ r8 then
      some (y10, M11)
    else
      (mrd 246 (M11 6) (((41 * x1) + y10) - 1)).bind fun v12 =>
      (mwr 246 M11 6 ((41 * x1) + y10) v12).bind fun M13 =>
      (mrd 246 (M13 7) (((41 * x1) + y10) - 1)).bind fun v14 =>
      (mwr 246 M13 7 ((41 * x1) + y10) (vp_nar .boolean v14)).bind fun M15 =>
      bnd (y10 + (-1)) fun z16 : Int32 =>
      L_X7_punch_81 x1 r8 f z16 M15

def s_X7_punch (M : Mem) (x1 : Int32) (x2 : Int32) (x3 : Int32) : Option (Int32 × Mem) :=
  (s_X7_isOne M x1).bind fun r1 =>
  Option.bind (α := Int32) (
    if r1 = 0 then
      some 1
    else
      (s_X7_in x2 0 10080).bind fun r3 =>
      if r3 = 0 then
        some 2
      else
        (s_X7_hasPunch M x1 x2).bind fun r4 =>
        if r4 = 0 then
          (mrd 6 (M 5) x1).bind fun v5 =>
          if v5 = 40 then
            some 3
          else
            some 0
        else
          some 3) fun p6 =>
  bnd (mst M 1 0 p6) fun M7 : Mem =>
  if (M7 1 0) ≤ 0 then
    (s_X7_placeOf M7 x1 x2).bind fun r8 =>
    (mrd 6 (M7 5) x1).bind fun v9 =>
    (L_X7_punch_81 x1 r8 FU v9 M7).bind fun p17 =>
    (mwr 246 p17.2 6 ((41 * x1) + r8) x2).bind fun M18 =>
    (mwr 246 M18 7 ((41 * x1) + r8) (vp_nar .boolean x3)).bind fun M19 =>
    (mrd 6 (M19 5) x1).bind fun v20 =>
    (mwr 6 M19 5 x1 (v20 + 1)).bind fun M21 =>
    (mrd 6 (M21 5) x1).bind fun v22 =>
    some (v22, M21)
  else
    some (0, M7)

def L_X7_removePunch_72 (x1 : Int32) : Nat → Int32 → Mem → Option (Int32 × Mem)
  | 0, _, _ => none
  | f + 1, y10, M11 =>
    (mrd 6 (M11 5) x1).bind fun v12 =>
    if v12 ≤ y10 then
      some (y10, M11)
    else
      (mrd 246 (M11 6) (((41 * x1) + y10) + 1)).bind fun v13 =>
      (mwr 246 M11 6 ((41 * x1) + y10) v13).bind fun M14 =>
      (mrd 246 (M14 7) (((41 * x1) + y10) + 1)).bind fun v15 =>
      (mwr 246 M14 7 ((41 * x1) + y10) (vp_nar .boolean v15)).bind fun M16 =>
      bnd (y10 + 1) fun z17 : Int32 =>
      L_X7_removePunch_72 x1 f z17 M16

def s_X7_removePunch (M : Mem) (x1 : Int32) (x2 : Int32) : Option (Int32 × Mem) :=
  (s_X7_isOne M x1).bind fun r1 =>
  Option.bind (α := Int32) (
    if r1 = 0 then
      some 1
    else
      (s_X7_hasPunch M x1 x2).bind fun r3 =>
      if r3 = 0 then
        some 2
      else
        some 0) fun p4 =>
  bnd (mst M 1 0 p4) fun M5 : Mem =>
  if (M5 1 0) ≤ 0 then
    (s_X7_placeOf M5 x1 x2).bind fun r6 =>
    (mrd 246 (M5 7) ((41 * x1) + r6)).bind fun v7 =>
    (mrd 6 (M5 5) x1).bind fun v8 =>
    (mwr 6 M5 5 x1 (v8 - 1)).bind fun M9 =>
    (L_X7_removePunch_72 x1 FU r6 M9).bind fun p18 =>
    (bchk v7).bind fun v19 =>
    some (v19, p18.2)
  else
    some (0, M5)

def s_X7_puts (M : Mem) (x1 : Int32) (x2 : Int32) (x3 : Int32) (q4 : Nat) (q5 : Nat) (q6 : Nat) : Option (Int32 × Mem) :=
  (s_X7_isOne M x1).bind fun r1 =>
  Option.bind (α := Int32) (
    if r1 = 0 then
      some 1
    else
      (s_X7_in x2 0 10079).bind fun r3 =>
      if r3 = 0 then
        some 2
      else
        if x3 ≤ x2 then
          some 2
        else
          if x3 ≤ 10080 then
            (mrd 6 (M q4) x1).bind fun v4 =>
            if v4 = 20 then
              some 3
            else
              some 0
          else
            some 2) fun p5 =>
  bnd (mst M 1 0 p5) fun M6 : Mem =>
  if (M6 1 0) ≤ 0 then
    (mrd 6 (M6 q4) x1).bind fun v7 =>
    (mwr 120 M6 q5 ((20 * x1) + v7) x2).bind fun M8 =>
    (mrd 6 (M8 q4) x1).bind fun v9 =>
    (mwr 120 M8 q6 ((20 * x1) + v9) x3).bind fun M10 =>
    (mrd 6 (M10 q4) x1).bind fun v11 =>
    (mwr 6 M10 q4 x1 (v11 + 1)).bind fun M12 =>
    (mrd 6 (M12 q4) x1).bind fun v13 =>
    some (v13 - 1, M12)
  else
    some (0, M6)

def s_X7_enter (M : Mem) (x1 : Int32) (x2 : Int32) (x3 : Int32) : Option (Int32 × Mem) :=
  (s_X7_puts M x1 x2 x3 8 9 10).bind fun r1 =>
  some (r1.1, r1.2)

def L_X7_takes_54 (x1 : Int32) (q3 : Nat) (q4 : Nat) (q5 : Nat) : Nat → Int32 → Mem → Option (Int32 × Mem)
  | 0, _, _ => none
  | f + 1, y10, M11 =>
    (mrd 6 (M11 q3) x1).bind fun v12 =>
    if ((20 * x1) + v12) ≤ y10 then
      some (y10, M11)
    else
      (mrd 120 (M11 q4) (y10 + 1)).bind fun v13 =>
      (mwr 120 M11 q4 y10 v13).bind fun M14 =>
      (mrd 120 (M14 q5) (y10 + 1)).bind fun v15 =>
      (mwr 120 M14 q5 y10 v15).bind fun M16 =>
      bnd (y10 + 1) fun z17 : Int32 =>
      L_X7_takes_54 x1 q3 q4 q5 f z17 M16

def s_X7_takes (M : Mem) (x1 : Int32) (x2 : Int32) (q3 : Nat) (q4 : Nat) (q5 : Nat) : Option (Int32 × Mem) :=
  (s_X7_isOne M x1).bind fun r1 =>
  Option.bind (α := Int32) (
    if r1 = 0 then
      some 1
    else
      (mrd 6 (M q3) x1).bind fun v3 =>
      (s_X7_in x2 0 (v3 - 1)).bind fun r4 =>
      if r4 = 0 then
        some 1
      else
        some 0) fun p5 =>
  bnd (mst M 1 0 p5) fun M6 : Mem =>
  if (M6 1 0) ≤ 0 then
    (mrd 6 (M6 q3) x1).bind fun v7 =>
    (mwr 6 M6 q3 x1 (v7 - 1)).bind fun M8 =>
    bnd ((20 * x1) + x2) fun z9 : Int32 =>
    (L_X7_takes_54 x1 q3 q4 q5 FU z9 M8).bind fun p18 =>
    (mrd 6 (p18.2 q3) x1).bind fun v19 =>
    some (v19, p18.2)
  else
    some (0, M6)

def s_X7_removeEntry (M : Mem) (x1 : Int32) (x2 : Int32) : Option (Int32 × Mem) :=
  (s_X7_takes M x1 x2 8 9 10).bind fun r1 =>
  some (r1.1, r1.2)

def s_X7_enterBreak (M : Mem) (x1 : Int32) (x2 : Int32) (x3 : Int32) : Option (Int32 × Mem) :=
  (s_X7_puts M x1 x2 x3 11 12 13).bind fun r1 =>
  some (r1.1, r1.2)

def s_X7_removeBreak (M : Mem) (x1 : Int32) (x2 : Int32) : Option (Int32 × Mem) :=
  (s_X7_takes M x1 x2 11 12 13).bind fun r1 =>
  some (r1.1, r1.2)

def s_X7_addPremium (M : Mem) (x1 : Int32) (x2 : Int32) (x3 : Int32) (x4 : Int32) : Option (Int32 × Mem) :=
  (s_X7_in x1 1 127).bind fun r1 =>
  Option.bind (α := Int32) (
    if r1 = 0 then
      some 0
    else
      (s_X7_in x2 0 1439).bind fun r3 =>
      if r3 = 0 then
        some 0
      else
        (s_X7_in x3 0 1439).bind fun r4 =>
        if r4 = 0 then
          some 0
        else
          (s_X7_in x4 1 10000).bind fun r5 =>
          if r5 = 0 then
            some 0
          else
            some 1) fun p6 =>
  bnd (α := Int32) (
    if p6 = 0 then
      1
    else
      if (M 1 14) = 6 then
        2
      else
        0) fun p8 =>
  bnd (mst M 1 0 p8) fun M9 : Mem =>
  if (M9 1 0) ≤ 0 then
    (mwr 6 M9 14 (M9 1 14) x1).bind fun M10 =>
    (mwr 6 M10 15 (M10 1 14) x2).bind fun M11 =>
    (mwr 6 M11 16 (M11 1 14) x3).bind fun M12 =>
    (mwr 6 M12 17 (M12 1 14) x4).bind fun M13 =>
    bnd (mst M13 1 14 ((M13 1 14) + 1)) fun M14 : Mem =>
    some ((M14 1 14) - 1, M14)
  else
    some (0, M9)

def L_X7_removePremium_44 : Nat → Int32 → Mem → Option (Int32 × Mem)
  | 0, _, _ => none
  | f + 1, y6, M7 =>
    if (M7 1 14) ≤ y6 then
      some (y6, M7)
    else
      (mrd 6 (M7 14) (y6 + 1)).bind fun v8 =>
      (mwr 6 M7 14 y6 v8).bind fun M9 =>
      (mrd 6 (M9 15) (y6 + 1)).bind fun v10 =>
      (mwr 6 M9 15 y6 v10).bind fun M11 =>
      (mrd 6 (M11 16) (y6 + 1)).bind fun v12 =>
      (mwr 6 M11 16 y6 v12).bind fun M13 =>
      (mrd 6 (M13 17) (y6 + 1)).bind fun v14 =>
      (mwr 6 M13 17 y6 v14).bind fun M15 =>
      bnd (y6 + 1) fun z16 : Int32 =>
      L_X7_removePremium_44 f z16 M15

def s_X7_removePremium (M : Mem) (x1 : Int32) : Option (Int32 × Mem) :=
  (s_X7_in x1 0 ((M 1 14) - 1)).bind fun r1 =>
  bnd (α := Int32) (
    if r1 = 0 then
      1
    else
      0) fun p3 =>
  bnd (mst M 1 0 p3) fun M4 : Mem =>
  if (M4 1 0) ≤ 0 then
    bnd (mst M4 1 14 ((M4 1 14) - 1)) fun M5 : Mem =>
    (L_X7_removePremium_44 FU x1 M5).bind fun p17 =>
    some (p17.2 1 14, p17.2)
  else
    some (0, M4)

def s_X7_makes (M : Mem) (x1 : Int32) (x2 : Int32) (x3 : Int32) : Option (Mem) :=
  (mwr 41 M 18 (M 1 19) x1).bind fun M1 =>
  (mwr 41 M1 19 (M1 1 19) x2).bind fun M2 =>
  bnd (α := Int32) (
    if x3 = 0 then
      0
    else
      1) fun p4 =>
  bnd (mst M2 1 20 ((M2 1 20) + p4)) fun M5 : Mem =>
  bnd (mst M5 1 19 ((M5 1 19) + 1)) fun M6 : Mem =>
  some M6

def L_X7_findsShifts_12 (x1 : Int32) : Nat → Int32 → Mem → Option (Int32 × Mem)
  | 0, _, _ => none
  | f + 1, y3, M4 =>
    (mrd 6 (M4 5) x1).bind fun v5 =>
    if v5 ≤ y3 then
      some (y3, M4)
    else
      (mrd 246 (M4 6) ((41 * x1) + y3)).bind fun v6 =>
      (mrd 6 (M4 5) x1).bind fun v7 =>
      bnd (α := Int32) (
        if (y3 + 1) = v7 then
          1
        else
          0) fun p9 =>
      Option.bind (α := Int32) (
        if p9 = 0 then
          (mrd 246 (M4 6) (((41 * x1) + y3) + 1)).bind fun v11 =>
          some v11
        else
          some 10080) fun p12 =>
      bnd (α := Int32) (
        if y3 = 0 then
          1
        else
          0) fun p14 =>
      Option.bind (α := Int32) (
        if p14 = 0 then
          (mrd 246 (M4 6) (((41 * x1) + y3) - 1)).bind fun v16 =>
          some v16
        else
          some 0) fun p17 =>
      (mrd 246 (M4 7) ((41 * x1) + y3)).bind fun v18 =>
      Option.bind (α := Mem) (
        if v18 = 0 then
          if p14 = 0 then
            (mrd 246 (M4 7) (((41 * x1) + y3) - 1)).bind fun v23 =>
            if v23 = 0 then
              bnd (α := Int32) (
                if 480 ≤ (v6 - p17) then
                  (v6 - 480)
                else
                  p17) fun p25 =>
              (s_X7_makes M4 p25 v6 1).bind fun r26 =>
              some r26
            else
              some M4
          else
            bnd (α := Int32) (
              if 480 ≤ (v6 - p17) then
                (v6 - 480)
              else
                p17) fun p21 =>
            (s_X7_makes M4 p21 v6 1).bind fun r22 =>
            some r22
        else
          Option.bind (α := Int32) (
            if p9 = 0 then
              (mrd 246 (M4 7) (((41 * x1) + y3) + 1)).bind fun v28 =>
              if v28 = 0 then
                some 1
              else
                some 0
            else
              some 0) fun p29 =>
          bnd (α := Int32) (
            if p29 = 0 then
              if 480 ≤ (p12 - v6) then
                (v6 + 480)
              else
                p12
            else
              p12) fun p31 =>
          bnd (α := Int32) (
            if p29 = 0 then
              1
            else
              0) fun p33 =>
          (s_X7_makes M4 v6 p31 p33).bind fun r34 =>
          some r34) fun p35 =>
      bnd (y3 + 1) fun z36 : Int32 =>
      L_X7_findsShifts_12 x1 f z36 p35

def s_X7_findsShifts (M : Mem) (x1 : Int32) : Option (Mem) :=
  bnd (mst M 1 19 0) fun M1 : Mem =>
  bnd (mst M1 1 20 0) fun M2 : Mem =>
  (L_X7_findsShifts_12 x1 FU 0 M2).bind fun p37 =>
  some p37.2

def s_X7_marks (M : Mem) (q1 : Nat) (x2 : Int32) (x3 : Int32) : Option (Mem) :=
  (mrd 10081 (M q1) x2).bind fun v1 =>
  (mwr 10081 M q1 x2 (v1 + 1)).bind fun M2 =>
  (mrd 10081 (M2 q1) x3).bind fun v3 =>
  (mwr 10081 M2 q1 x3 (v3 - 1)).bind fun M4 =>
  some M4

def L_X7_findsPaid_17 : Nat → Int32 → Mem → Option (Int32 × Mem)
  | 0, _, _ => none
  | f + 1, y4, M5 =>
    if 7 ≤ y4 then
      some (y4, M5)
    else
      (mwr 7 M5 23 y4 0).bind fun M6 =>
      (mwr 7 M6 24 y4 0).bind fun M7 =>
      bnd (y4 + 1) fun z8 : Int32 =>
      L_X7_findsPaid_17 f z8 M7

def L_X7_findsPaid_47 : Nat → Int32 → Int32 → Mem → Option (Int32 × Int32 × Mem)
  | 0, _, _, _ => none
  | f + 1, y10, y11, M12 =>
    if 10080 ≤ y11 then
      some (y10, y11, M12)
    else
      (mrd 10081 (M12 20) y11).bind fun v13 =>
      Option.bind (α := Int32) (
        if y11 ≤ 0 then
          some 0
        else
          (mrd 10081 (M12 20) (y11 - 1)).bind fun v15 =>
          some v15) fun p16 =>
      (mwr 10081 M12 20 y11 (v13 + p16)).bind fun M17 =>
      (mrd 10081 (M17 21) y11).bind fun v18 =>
      Option.bind (α := Int32) (
        if y11 ≤ 0 then
          some 0
        else
          (mrd 10081 (M17 21) (y11 - 1)).bind fun v20 =>
          some v20) fun p21 =>
      (mwr 10081 M17 21 y11 (v18 + p21)).bind fun M22 =>
      (mrd 10081 (M22 20) y11).bind fun v23 =>
      Option.bind (α := Int32) (
        if v23 ≤ 0 then
          some 0
        else
          (mrd 10081 (M22 21) y11).bind fun v25 =>
          if v25 = 0 then
            some 1
          else
            some 0) fun p26 =>
      bnd (α := Int32) (
        if p26 = 0 then
          0
        else
          (y10 + 1)) fun p28 =>
      (mrd 10081 (M22 20) y11).bind fun v29 =>
      bnd (α := Int32) (
        if v29 ≤ 1 then
          0
        else
          1) fun p31 =>
      bnd (mst M22 1 31 ((M22 1 31) + p31)) fun M32 : Mem =>
      bnd (α := Int32) (
        if p28 = 1 then
          1
        else
          0) fun p34 =>
      bnd (mst M32 1 32 ((M32 1 32) + p34)) fun M35 : Mem =>
      bnd (α := Int32) (
        if p28 ≤ (M35 1 33) then
          (M35 1 33)
        else
          p28) fun p37 =>
      bnd (mst M35 1 33 p37) fun M38 : Mem =>
      (mrd 7 (M38 23) (y11 / 1440)).bind fun v39 =>
      bnd (α := Int32) (
        if p26 = 0 then
          0
        else
          1) fun p41 =>
      (mwr 7 M38 23 (y11 / 1440) (v39 + p41)).bind fun M42 =>
      Option.bind (α := Int32) (
        if p26 = 0 then
          some 0
        else
          (s_X7_in p28 361 390).bind fun r44 =>
          if r44 = 0 then
            some 1
          else
            some 0) fun p45 =>
      bnd (α := Int32) (
        if p45 = 0 then
          ((-1))
        else
          0) fun p47 =>
      (mwr 10080 M42 22 y11 p47).bind fun M48 =>
      (mrd 7 (M48 24) (y11 / 1440)).bind fun v49 =>
      bnd (α := Int32) (
        if p45 = 0 then
          0
        else
          1) fun p51 =>
      (mwr 7 M48 24 (y11 / 1440) (v49 + p51)).bind fun M52 =>
      bnd (y11 + 1) fun z53 : Int32 =>
      L_X7_findsPaid_47 f p28 z53 M52

def s_X7_findsPaid (M : Mem) : Option (Mem) :=
  bnd (mst M 1 31 0) fun M1 : Mem =>
  bnd (mst M1 1 32 0) fun M2 : Mem =>
  bnd (mst M2 1 33 0) fun M3 : Mem =>
  (L_X7_findsPaid_17 FU 0 M3).bind fun p9 =>
  (L_X7_findsPaid_47 FU 0 0 p9.2).bind fun p54 =>
  some p54.2.2

def L_X7_findsKinds_4 (M : Mem) : Nat → Int32 → Int32 → Option (Int32 × Int32)
  | 0, _, _ => none
  | f + 1, y1, y2 =>
    if 6 ≤ y2 then
      some (y1, y2)
    else
      Option.bind (α := Int32) (
        if y1 = 0 then
          some 0
        else
          (mrd 7 (M 24) y2).bind fun v4 =>
          if v4 ≤ 0 then
            some 0
          else
            some 1) fun p5 =>
      bnd (y2 + 1) fun z6 : Int32 =>
      L_X7_findsKinds_4 M f p5 z6

def L_X7_findsKinds_37 : Nat → Int32 → Mem → Option (Int32 × Mem)
  | 0, _, _ => none
  | f + 1, y8, M9 =>
    if 21 ≤ y8 then
      some (y8, M9)
    else
      (mwr 21 M9 25 y8 0).bind fun M10 =>
      bnd (y8 + 1) fun z11 : Int32 =>
      L_X7_findsKinds_37 f z11 M10

def L_X7_findsKinds_63 (p7 : Int32 × Int32) : Nat → Int32 → Int32 → Int32 → Mem → Option (Int32 × Int32 × Int32 × Mem)
  | 0, _, _, _, _ => none
  | f + 1, y13, y14, y15, M16 =>
    if 10080 ≤ y15 then
      some (y13, y14, y15, M16)
    else
      bnd (α := Int32) (
        if (y15 - y15 / 1440 * 1440) = 0 then
          0
        else
          y14) fun p18 =>
      bnd (α := Int32) (
        if (y15 / 1440) = 6 then
          if p7.1 = 0 then
            0
          else
            1
        else
          0) fun p20 =>
      (mrd 10080 (M16 22) y15).bind fun v21 =>
      Option.bind (α := Int32 × Int32 × Mem) (
        if v21 = ((-1)) then
          some (y13, p18, M16)
        else
          bnd (α := Int32) (
            if 720 ≤ p18 then
              1
            else
              if p20 = 0 then
                0
              else
                if p18 < 480 then
                  0
                else
                  1) fun p24 =>
          bnd (α := Int32) (
            if p24 = 0 then
              if 480 ≤ p18 then
                1
              else
                if 2400 ≤ y13 then
                  1
                else
                  if p20 = 0 then
                    0
                  else
                    1
            else
              2) fun p26 =>
          (mwr 10080 M16 22 y15 p26).bind fun M27 =>
          (mrd 10080 (M27 22) y15).bind fun v28 =>
          (mrd 21 (M27 25) ((3 * (y15 / 1440)) + v28)).bind fun v29 =>
          (mwr 21 M27 25 ((3 * (y15 / 1440)) + v28) (v29 + 1)).bind fun M30 =>
          bnd (p18 + 1) fun z31 : Int32 =>
          bnd (y13 + 1) fun z32 : Int32 =>
          some (z32, z31, M30)) fun p33 =>
      bnd (y15 + 1) fun z34 : Int32 =>
      L_X7_findsKinds_63 p7 f p33.1 p33.2.1 z34 p33.2.2

def s_X7_findsKinds (M : Mem) : Option (Mem) :=
  (L_X7_findsKinds_4 M FU 1 0).bind fun p7 =>
  (L_X7_findsKinds_37 FU 0 M).bind fun p12 =>
  (L_X7_findsKinds_63 p7 FU 0 0 0 p12.2).bind fun p35 =>
  some p35.2.2.2

def L_X7_ahead_20 (M : Mem) (x1 : Int32) (x2 : Int32) (z2 : Int32) : Nat → Int32 → Int32 → Option (Int32 × Int32)
  | 0, _, _ => none
  | f + 1, y3, y4 =>
    if 7 ≤ y4 then
      some (y3, y4)
    else
      (mrd 21 (M 25) ((3 * y4) + x2)).bind fun v5 =>
      bnd (v5 - v5 / 15 * 15) fun z6 : Int32 =>
      bnd (α := Int32) (
        if z2 < z6 then
          1
        else
          if z6 = z2 then
            if x1 ≤ y4 then
              0
            else
              1
          else
            0) fun p8 =>
      bnd (y3 + p8) fun z9 : Int32 =>
      bnd (y4 + 1) fun z10 : Int32 =>
      L_X7_ahead_20 M x1 x2 z2 f z9 z10

def s_X7_ahead (M : Mem) (x1 : Int32) (x2 : Int32) : Option (Int32) :=
  (mrd 21 (M 25) ((3 * x1) + x2)).bind fun v1 =>
  bnd (v1 - v1 / 15 * 15) fun z2 : Int32 =>
  (L_X7_ahead_20 M x1 x2 z2 FU 0 0).bind fun p11 =>
  some p11.1

def L_X7_findsShares_14 (y1 : Int32) : Nat → Int32 → Int32 → Int32 → Mem → Option (Int32 × Int32 × Int32 × Mem)
  | 0, _, _, _, _ => none
  | f + 1, y3, y4, y5, M6 =>
    if 7 ≤ y5 then
      some (y3, y4, y5, M6)
    else
      (mrd 21 (M6 25) ((3 * y5) + y1)).bind fun v7 =>
      bnd (y3 + v7) fun z8 : Int32 =>
      (mrd 21 (M6 25) ((3 * y5) + y1)).bind fun v9 =>
      (mwr 21 M6 26 ((3 * y5) + y1) (v9 / 15)).bind fun M10 =>
      (mrd 21 (M10 25) ((3 * y5) + y1)).bind fun v11 =>
      bnd (y4 - (v11 / 15)) fun z12 : Int32 =>
      bnd (y5 + 1) fun z13 : Int32 =>
      L_X7_findsShares_14 y1 f z8 z12 z13 M10

def L_X7_findsShares_108 (y1 : Int32) (z17 : Int32) : Nat → Int32 → Mem → Option (Int32 × Mem)
  | 0, _, _ => none
  | f + 1, y18, M19 =>
    if 7 ≤ y18 then
      some (y18, M19)
    else
      (mrd 21 (M19 26) ((3 * y18) + y1)).bind fun v20 =>
      (s_X7_ahead M19 y18 y1).bind fun r21 =>
      bnd (α := Int32) (
        if z17 ≤ r21 then
          0
        else
          1) fun p23 =>
      (mwr 21 M19 26 ((3 * y18) + y1) (v20 + p23)).bind fun M24 =>
      bnd (y18 + 1) fun z25 : Int32 =>
      L_X7_findsShares_108 y1 z17 f z25 M24

def L_X7_findsShares_2 : Nat → Int32 → Mem → Option (Int32 × Mem)
  | 0, _, _ => none
  | f + 1, y1, M2 =>
    if 3 ≤ y1 then
      some (y1, M2)
    else
      (L_X7_findsShares_14 y1 FU 0 0 0 M2).bind fun p14 =>
      (mwr 3 p14.2.2.2 27 y1 ((p14.1 + 7) / 15)).bind fun M15 =>
      (mrd 3 (M15 27) y1).bind fun v16 =>
      bnd (p14.2.1 + v16) fun z17 : Int32 =>
      (L_X7_findsShares_108 y1 z17 FU 0 M15).bind fun p26 =>
      bnd (y1 + 1) fun z27 : Int32 =>
      L_X7_findsShares_2 f z27 p26.2

def s_X7_findsShares (M : Mem) : Option (Mem) :=
  (L_X7_findsShares_2 FU 0 M).bind fun p28 =>
  some p28.2

def L_X7_lays_7 : Nat → Int32 → Mem → Option (Int32 × Mem)
  | 0, _, _ => none
  | f + 1, y2, M3 =>
    if 10080 < y2 then
      some (y2, M3)
    else
      (mwr 10081 M3 20 y2 0).bind fun M4 =>
      (mwr 10081 M4 21 y2 0).bind fun M5 =>
      bnd (y2 + 1) fun z6 : Int32 =>
      L_X7_lays_7 f z6 M5

def L_X7_lays_36 : Nat → Int32 → Mem → Option (Int32 × Mem)
  | 0, _, _ => none
  | f + 1, y8, M9 =>
    if (M9 1 19) ≤ y8 then
      some (y8, M9)
    else
      (mrd 41 (M9 18) y8).bind fun v10 =>
      (mrd 41 (M9 19) y8).bind fun v11 =>
      (s_X7_marks M9 20 v10 v11).bind fun r12 =>
      bnd (y8 + 1) fun z13 : Int32 =>
      L_X7_lays_36 f z13 r12

def L_X7_lays_75 (x1 : Int32) : Nat → Int32 → Mem → Option (Int32 × Mem)
  | 0, _, _ => none
  | f + 1, y16, M17 =>
    (mrd 6 (M17 8) x1).bind fun v18 =>
    if ((20 * x1) + v18) ≤ y16 then
      some (y16, M17)
    else
      (mrd 120 (M17 9) y16).bind fun v19 =>
      (mrd 120 (M17 10) y16).bind fun v20 =>
      (s_X7_marks M17 20 v19 v20).bind fun r21 =>
      bnd (y16 + 1) fun z22 : Int32 =>
      L_X7_lays_75 x1 f z22 r21

def L_X7_lays_121 (x1 : Int32) : Nat → Int32 → Mem → Option (Int32 × Mem)
  | 0, _, _ => none
  | f + 1, y25, M26 =>
    (mrd 6 (M26 11) x1).bind fun v27 =>
    if ((20 * x1) + v27) ≤ y25 then
      some (y25, M26)
    else
      (mrd 120 (M26 12) y25).bind fun v28 =>
      (mrd 120 (M26 13) y25).bind fun v29 =>
      (s_X7_marks M26 21 v28 v29).bind fun r30 =>
      bnd (y25 + 1) fun z31 : Int32 =>
      L_X7_lays_121 x1 f z31 r30

def s_X7_lays (M : Mem) (x1 : Int32) : Option (Mem) :=
  (s_X7_findsShifts M x1).bind fun r1 =>
  (L_X7_lays_7 FU 0 r1).bind fun p7 =>
  (L_X7_lays_36 FU 0 p7.2).bind fun p14 =>
  bnd (20 * x1) fun z15 : Int32 =>
  (L_X7_lays_75 x1 FU z15 p14.2).bind fun p23 =>
  bnd (20 * x1) fun z24 : Int32 =>
  (L_X7_lays_121 x1 FU z24 p23.2).bind fun p32 =>
  (s_X7_findsPaid p32.2).bind fun r33 =>
  (s_X7_findsKinds r33).bind fun r34 =>
  (s_X7_findsShares r34).bind fun r35 =>
  some r35

def s_X7_applies (M : Mem) (x1 : Int32) (x2 : Int32) : Option (Int32) :=
  bnd (x2 - x2 / 1440 * 1440) fun z1 : Int32 =>
  (mrd 6 (M 15) x1).bind fun v2 =>
  (mrd 6 (M 16) x1).bind fun v3 =>
  Option.bind (α := Int32) (
    if v3 ≤ v2 then
      if v2 = v3 then
        some 1
      else
        if v2 ≤ z1 then
          some 1
        else
          if v3 ≤ z1 then
            some 0
          else
            some 1
    else
      (s_X7_in z1 v2 (v3 - 1)).bind fun r5 =>
      some r5) fun p6 =>
  (mrd 6 (M 14) x1).bind fun v7 =>
  if ((v7 >>> ((x2 / 1440) &&& 31)) - (v7 >>> ((x2 / 1440) &&& 31)) / 2 * 2) = 1 then
    if p6 = 0 then
      some 0
    else
      some 1
  else
    some 0

def L_X7_extra_16 (M : Mem) (y2 : Int32) : Nat → Int32 → Int32 → Option (Int32 × Int32)
  | 0, _, _ => none
  | f + 1, y3, y4 =>
    if (M 1 14) ≤ y4 then
      some (y3, y4)
    else
      (mrd 10080 (M 22) y2).bind fun v5 =>
      if v5 = ((-1)) then
        some (y3, y4)
      else
        (mrd 6 (M 17) y4).bind fun v6 =>
        Option.bind (α := Int32) (
          if v6 ≤ y3 then
            some y3
          else
            (s_X7_applies M y4 y2).bind fun r8 =>
            if r8 = 0 then
              some y3
            else
              (mrd 6 (M 17) y4).bind fun v9 =>
              some v9) fun p10 =>
        bnd (y4 + 1) fun z11 : Int32 =>
        L_X7_extra_16 M y2 f p10 z11

def L_X7_extra_4 (M : Mem) : Nat → Int32 → Int32 → Option (Int32 × Int32)
  | 0, _, _ => none
  | f + 1, y1, y2 =>
    if 10080 ≤ y2 then
      some (y1, y2)
    else
      (L_X7_extra_16 M y2 FU 0 0).bind fun p12 =>
      bnd (y1 + p12.1) fun z13 : Int32 =>
      bnd (y2 + 1) fun z14 : Int32 =>
      L_X7_extra_4 M f z13 z14

def s_X7_extra (M : Mem) : Option (Int32) :=
  (L_X7_extra_4 M FU 0 0).bind fun p15 =>
  some ((p15.1 + 30) / 60)

def s_X7_payOf (M : Mem) (x1 : Int32) : Option (Int32 × Mem) :=
  (s_X7_lays M x1).bind fun r1 =>
  (mrd 6 (r1 2) x1).bind fun v2 =>
  (mrd 3 (r1 27) 0).bind fun v3 =>
  (mrd 3 (r1 27) 1).bind fun v4 =>
  (mrd 3 (r1 27) 2).bind fun v5 =>
  bnd (v2 * (((2 * v3) + (3 * v4)) + (4 * v5))) fun z6 : Int32 =>
  (s_X7_extra r1).bind fun r7 =>
  some (((z6 + 4) / 8) + r7, r1)

def s_X7_closeWeek (M : Mem) (G : Mel) (x1 : Int32) : Option (Int32 × Mem × Mel) :=
  (s_X7_isOne M x1).bind fun r1 =>
  Option.bind (α := Int32) (
    if r1 = 0 then
      some 1
    else
      (mrd 6 (M 5) x1).bind fun v3 =>
      if v3 = 0 then
        (mrd 6 (M 8) x1).bind fun v4 =>
        if v4 = 0 then
          some 2
        else
          some 0
      else
        some 0) fun p5 =>
  bnd (mst M 1 0 p5) fun M6 : Mem =>
  if (M6 1 0) ≤ 0 then
    (s_X7_payOf M6 x1).bind fun r7 =>
    (mrdL 6 (G 4) x1).bind fun v8 =>
    (mwrL 6 G 4 x1 (v8 + r7.1.toInt64)).bind fun G9 =>
    (mrd 6 (r7.2 3) x1).bind fun v10 =>
    (mwr 6 r7.2 3 x1 (v10 + 1)).bind fun M11 =>
    (mwr 6 M11 5 x1 0).bind fun M12 =>
    (mwr 6 M12 8 x1 0).bind fun M13 =>
    (mwr 6 M13 11 x1 0).bind fun M14 =>
    some (r7.1, M14, G9)
  else
    some (0, M6, G)

def s_X7_employees (M : Mem) : Option (Int32 × Mem) :=
  bnd (mst M 1 0 0) fun M1 : Mem =>
  some (M1 1 1, M1)

def s_X7_fails (M : Mem) (x1 : Int32) : Option (Int32 × Mem) :=
  bnd (mst M 1 0 x1) fun M1 : Mem =>
  some (0, M1)

def s_X7_closedWeeks (M : Mem) (x1 : Int32) : Option (Int32 × Mem) :=
  bnd (mst M 1 0 0) fun M1 : Mem =>
  (s_X7_isOne M1 x1).bind fun r2 =>
  if r2 = 0 then
    (s_X7_fails M1 1).bind fun r3 =>
    some (r3.1, r3.2)
  else
    (mrd 6 (M1 3) x1).bind fun v4 =>
    some (v4, M1)

def s_X7_earned (M : Mem) (G : Mel) (x1 : Int32) : Option (Int64 × Mem) :=
  (s_X7_isOne M x1).bind fun r1 =>
  bnd (α := Int32) (
    if r1 = 0 then
      1
    else
      0) fun p3 =>
  bnd (mst M 1 0 p3) fun M4 : Mem =>
  Option.bind (α := Int64) (
    if (M4 1 0) ≤ 0 then
      (mrdL 6 (G 4) x1).bind fun v6 =>
      some v6
    else
      some 0) fun p7 =>
  some (p7, M4)

def s_X7_looks (M : Mem) (x1 : Int32) : Option (Int32 × Mem) :=
  (s_X7_isOne M x1).bind fun r1 =>
  bnd (α := Int32) (
    if r1 = 0 then
      1
    else
      0) fun p3 =>
  bnd (mst M 1 0 p3) fun M4 : Mem =>
  Option.bind (α := Mem) (
    if (M4 1 0) = 0 then
      (s_X7_lays M4 x1).bind fun r6 =>
      some r6
    else
      some M4) fun p7 =>
  if (p7 1 0) = 0 then
    some (1, p7)
  else
    some (0, p7)

def s_X7_shifts (M : Mem) (x1 : Int32) : Option (Int32 × Mem) :=
  (s_X7_looks M x1).bind fun r1 =>
  if r1.1 = 0 then
    some (0, r1.2)
  else
    some (r1.2 1 19, r1.2)

def s_X7_shiftBegin (M : Mem) (x1 : Int32) (x2 : Int32) : Option (Int32 × Mem) :=
  (s_X7_looks M x1).bind fun r1 =>
  Option.bind (α := Int32) (
    if r1.1 = 0 then
      some 0
    else
      (s_X7_in x2 0 ((r1.2 1 19) - 1)).bind fun r3 =>
      if r3 = 0 then
        some 0
      else
        some 1) fun p4 =>
  if p4 = 0 then
    (s_X7_fails r1.2 1).bind fun r5 =>
    some (r5.1, r5.2)
  else
    (mrd 41 (r1.2 18) x2).bind fun v6 =>
    some (v6, r1.2)

def s_X7_shiftEnd (M : Mem) (x1 : Int32) (x2 : Int32) : Option (Int32 × Mem) :=
  (s_X7_looks M x1).bind fun r1 =>
  Option.bind (α := Int32) (
    if r1.1 = 0 then
      some 0
    else
      (s_X7_in x2 0 ((r1.2 1 19) - 1)).bind fun r3 =>
      if r3 = 0 then
        some 0
      else
        some 1) fun p4 =>
  if p4 = 0 then
    (s_X7_fails r1.2 1).bind fun r5 =>
    some (r5.1, r5.2)
  else
    (mrd 41 (r1.2 19) x2).bind fun v6 =>
    some (v6, r1.2)

def s_X7_repairedShifts (M : Mem) (x1 : Int32) : Option (Int32 × Mem) :=
  (s_X7_looks M x1).bind fun r1 =>
  if r1.1 = 0 then
    some (0, r1.2)
  else
    some (r1.2 1 20, r1.2)

def s_X7_coverage (M : Mem) (x1 : Int32) (x2 : Int32) : Option (Int32 × Mem) :=
  (s_X7_looks M x1).bind fun r1 =>
  Option.bind (α := Int32) (
    if r1.1 = 0 then
      some (r1.2 1 0)
    else
      (s_X7_in x2 0 10079).bind fun r3 =>
      if r3 = 0 then
        some 2
      else
        some (r1.2 1 0)) fun p4 =>
  bnd (mst r1.2 1 0 p4) fun M5 : Mem =>
  if (M5 1 0) ≤ 0 then
    (mrd 10081 (M5 20) x2).bind fun v6 =>
    some (v6, M5)
  else
    some (0, M5)

def s_X7_overlap (M : Mem) (x1 : Int32) : Option (Int32 × Mem) :=
  (s_X7_looks M x1).bind fun r1 =>
  if r1.1 = 0 then
    some (0, r1.2)
  else
    some (r1.2 1 31, r1.2)

def s_X7_workedOn (M : Mem) (x1 : Int32) (x2 : Int32) : Option (Int32 × Mem) :=
  (s_X7_looks M x1).bind fun r1 =>
  Option.bind (α := Int32) (
    if r1.1 = 0 then
      some (r1.2 1 0)
    else
      (s_X7_in x2 0 6).bind fun r3 =>
      if r3 = 0 then
        some 2
      else
        some (r1.2 1 0)) fun p4 =>
  bnd (mst r1.2 1 0 p4) fun M5 : Mem =>
  if (M5 1 0) ≤ 0 then
    (mrd 7 (M5 23) x2).bind fun v6 =>
    some (v6, M5)
  else
    some (0, M5)

def s_X7_stretches (M : Mem) (x1 : Int32) : Option (Int32 × Mem) :=
  (s_X7_looks M x1).bind fun r1 =>
  if r1.1 = 0 then
    some (0, r1.2)
  else
    some (r1.2 1 32, r1.2)

def s_X7_longestStretch (M : Mem) (x1 : Int32) : Option (Int32 × Mem) :=
  (s_X7_looks M x1).bind fun r1 =>
  if r1.1 = 0 then
    some (0, r1.2)
  else
    some (r1.2 1 33, r1.2)

def s_X7_category (M : Mem) (x1 : Int32) (x2 : Int32) : Option (Int32 × Mem) :=
  (s_X7_looks M x1).bind fun r1 =>
  Option.bind (α := Int32) (
    if r1.1 = 0 then
      some (r1.2 1 0)
    else
      (s_X7_in x2 0 10079).bind fun r3 =>
      if r3 = 0 then
        some 2
      else
        some (r1.2 1 0)) fun p4 =>
  bnd (mst r1.2 1 0 p4) fun M5 : Mem =>
  if (M5 1 0) ≤ 0 then
    (mrd 10080 (M5 22) x2).bind fun v6 =>
    some (v6, M5)
  else
    some (0, M5)

def s_X7_told (M : Mem) (x1 : Int32) (x2 : Int32) (x3 : Int32) (q4 : Nat) : Option (Int32 × Mem) :=
  (s_X7_looks M x1).bind fun r1 =>
  Option.bind (α := Int32) (
    if r1.1 = 0 then
      some (r1.2 1 0)
    else
      (s_X7_in x2 0 6).bind fun r3 =>
      if r3 = 0 then
        some 2
      else
        (s_X7_in x3 0 2).bind fun r4 =>
        if r4 = 0 then
          some 2
        else
          some (r1.2 1 0)) fun p5 =>
  bnd (mst r1.2 1 0 p5) fun M6 : Mem =>
  if (M6 1 0) ≤ 0 then
    (mrd 21 (M6 q4) ((3 * x2) + x3)).bind fun v7 =>
    some (v7, M6)
  else
    some (0, M6)

def s_X7_minutes (M : Mem) (x1 : Int32) (x2 : Int32) (x3 : Int32) : Option (Int32 × Mem) :=
  (s_X7_told M x1 x2 x3 25).bind fun r1 =>
  some (r1.1, r1.2)

def s_X7_quarters (M : Mem) (x1 : Int32) (x2 : Int32) (x3 : Int32) : Option (Int32 × Mem) :=
  (s_X7_told M x1 x2 x3 26).bind fun r1 =>
  some (r1.1, r1.2)

def s_X7_premiumPay (M : Mem) (x1 : Int32) : Option (Int32 × Mem) :=
  (s_X7_looks M x1).bind fun r1 =>
  if r1.1 = 0 then
    some (0, r1.2)
  else
    (s_X7_extra r1.2).bind fun r2 =>
    some (r2, r1.2)

def s_X7_pay (M : Mem) (x1 : Int32) : Option (Int32 × Mem) :=
  (s_X7_isOne M x1).bind fun r1 =>
  bnd (α := Int32) (
    if r1 = 0 then
      1
    else
      0) fun p3 =>
  bnd (mst M 1 0 p3) fun M4 : Mem =>
  if (M4 1 0) ≤ 0 then
    (s_X7_payOf M4 x1).bind fun r5 =>
    some (r5.1, r5.2)
  else
    some (0, M4)
end
section
set_option maxHeartbeats 4000000 in
theorem c_X4_size {Y : Lx} {o : Nat → Nat} {hn : Nat} {M : Mem} {G : Mel} {t : Nat} {rr : Int32} (ht : tb hn t) (hE : s_X4_size M t = some (rr)) : MI Y yX4_size cX4_size 1 (some .int) 0 0 0 0 [.ref (o t)] o hn M G (.inl (some (.int rr))) M G := by
  refine MI.of (by decide +kernel) (Nat.le_of_ble_eq_true rfl) (fun X hY hX hE0 hR => ?_)
  change CxOK X RX4 cX4_size 1 0 0 0 0 (some .int) at hX
  show WM X o hn M G 0 0 0 1 [(0, .ref (o t))] []
  unfold s_X4_size at hE
  refine q_aload_n (pc := 0) hX 0 rfl rfl dX4_size_0 ?_
  refine q_get (pc := 1) (id := t) (ci := 4) (N := 3) (T := TX4) (C := RX4) hX 2 (tb_lt ht) (ob_T ht.1 _ _) rfl in_X4 (by decide) (Or.inl kw_41) rfl dX4_size_1 ?_
  cases hE
  exact q_iret hX hR (by decide) (by decide) dX4_size_4

set_option maxHeartbeats 4000000 in
theorem c_X4_get {Y : Lx} {o : Nat → Nat} {hn : Nat} {M : Mem} {G : Mel} {t : Nat} {x1 : Int32} {x2 : Int32} {rr : Int32} (ht : tb hn t) (hE : s_X4_get M t x1 x2 = some (rr)) : MI Y yX4_get cX4_get 4 (some .int) 0 0 0 0 [.ref (o t), .int x1, .int x2] o hn M G (.inl (some (.int rr))) M G := by
  refine MI.of (by decide +kernel) (Nat.le_of_ble_eq_true rfl) (fun X hY hX hE0 hR => ?_)
  change CxOK X RX4 cX4_get 4 0 0 0 0 (some .int) at hX
  show WM X o hn M G 0 0 0 4 [(0, .ref (o t)), (1, .int x1), (2, .int x2)] []
  unfold s_X4_get at hE
  refine q_iload_n (pc := 0) hX 1 rfl rfl dX4_get_0 ?_
  refine q_if_lt (pc := 1) hX 24 (by decide) dX4_get_1 (fun c => ?_) (fun c => ?_)
  · rw [if_pos c] at hE
    refine q_iconst (pc := 24) hX (0) rfl dX4_get_24 ?_
    cases hE
    exact q_iret hX hR (by decide) (by decide) dX4_get_25
  · rw [if_neg c] at hE
    refine q_iload_n (pc := 4) hX 1 rfl rfl dX4_get_4 ?_
    refine q_aload_n (pc := 5) hX 0 rfl rfl dX4_get_5 ?_
    refine q_get (pc := 6) (id := t) (ci := 4) (N := 3) (T := TX4) (C := RX4) hX 2 (tb_lt ht) (ob_T ht.1 _ _) rfl in_X4 (by decide) (Or.inl kw_41) rfl dX4_get_6 ?_
    refine q_icmp_ge (pc := 9) hX 24 (by decide) dX4_get_9 (fun c => ?_) (fun c => ?_)
    · rw [if_pos c] at hE
      refine q_iconst (pc := 24) hX (0) rfl dX4_get_24 ?_
      cases hE
      exact q_iret hX hR (by decide) (by decide) dX4_get_25
    · rw [if_neg c] at hE
      refine q_iload_n (pc := 12) hX 2 rfl rfl dX4_get_12 ?_
      refine q_if_lt (pc := 13) hX 24 (by decide) dX4_get_13 (fun c => ?_) (fun c => ?_)
      · rw [if_pos c] at hE
        refine q_iconst (pc := 24) hX (0) rfl dX4_get_24 ?_
        cases hE
        exact q_iret hX hR (by decide) (by decide) dX4_get_25
      · rw [if_neg c] at hE
        refine q_iload_n (pc := 16) hX 2 rfl rfl dX4_get_16 ?_
        refine q_aload_n (pc := 17) hX 0 rfl rfl dX4_get_17 ?_
        refine q_get (pc := 18) (id := t) (ci := 4) (N := 3) (T := TX4) (C := RX4) hX 0 (tb_lt ht) (ob_T ht.1 _ _) rfl in_X4 (by decide) (Or.inl kw_38) rfl dX4_get_18 ?_
        refine q_icmp_lt (pc := 21) hX 26 (by decide) dX4_get_21 (fun c => ?_) (fun c => ?_)
        · rw [if_pos c] at hE
          refine q_iload_n (pc := 26) hX 1 rfl rfl dX4_get_26 ?_
          refine q_aload_n (pc := 27) hX 0 rfl rfl dX4_get_27 ?_
          refine q_get (pc := 28) (id := t) (ci := 4) (N := 3) (T := TX4) (C := RX4) hX 0 (tb_lt ht) (ob_T ht.1 _ _) rfl in_X4 (by decide) (Or.inl kw_38) rfl dX4_get_28 ?_
          refine q_imul (pc := 31) hX dX4_get_31 ?_
          refine q_iload_n (pc := 32) hX 2 rfl rfl dX4_get_32 ?_
          refine q_iadd (pc := 33) hX dX4_get_33 ?_
          refine q_nm (fun z1 hz1 => ?_)
          have hE := bnd_nm hz1 hE
          refine q_istore_n (pc := 34) hX [1, 2, 3, 0] rfl (by decide) rfl dX4_get_34 ?_
          refine q_iload_n (pc := 35) hX 3 rfl rfl dX4_get_35 ?_
          refine q_if_lt (pc := 36) hX 57 (by decide) dX4_get_36 (fun c => ?_) (fun c => ?_)
          · rw [if_pos c] at hE
            refine q_iconst (pc := 57) hX (0) rfl dX4_get_57 ?_
            cases hE
            exact q_iret hX hR (by decide) (by decide) dX4_get_58
          · rw [if_neg c] at hE
            refine q_iload_n (pc := 39) hX 3 rfl rfl dX4_get_39 ?_
            refine q_aload_n (pc := 40) hX 0 rfl rfl dX4_get_40 ?_
            refine q_get (pc := 41) (id := t) (ci := 4) (N := 3) (T := TX4) (C := RX4) hX 1 (tb_lt ht) (ob_T ht.1 _ _) rfl in_X4 (by decide) (Or.inl kw_40) rfl dX4_get_41 ?_
            refine r_alen (pc := 44) (id := (t + 1)) (n := (tl t)) hX (nI (tl t)) ht.2 (fun f g => ob_C ht.1 f g) rfl dX4_get_44 ?_
            refine q_icmp_ge (pc := 45) hX 57 (by decide) dX4_get_45 (fun c => ?_) (fun c => ?_)
            · rw [if_pos c] at hE
              refine q_iconst (pc := 57) hX (0) rfl dX4_get_57 ?_
              cases hE
              exact q_iret hX hR (by decide) (by decide) dX4_get_58
            · rw [if_neg c] at hE
              refine q_aload_n (pc := 48) hX 0 rfl rfl dX4_get_48 ?_
              refine q_get (pc := 49) (id := t) (ci := 4) (N := 3) (T := TX4) (C := RX4) hX 1 (tb_lt ht) (ob_T ht.1 _ _) rfl in_X4 (by decide) (Or.inl kw_40) rfl dX4_get_49 ?_
              refine q_iload_n (pc := 52) hX 3 rfl rfl dX4_get_52 ?_
              obtain ⟨v2, hv2, hE⟩ := ob_bind hE
              refine r_iald (pc := 53) (id := (t + 1)) (n := (tl t)) hX ht.2 (fun f g => ob_C ht.1 f g) hv2 dX4_get_53 ?_
              refine q_goto (pc := 54) hX 58 (by decide) dX4_get_54 ?_
              cases hE
              exact q_iret hX hR (by decide) (by decide) dX4_get_58
        · rw [if_neg c] at hE
          refine q_iconst (pc := 24) hX (0) rfl dX4_get_24 ?_
          cases hE
          exact q_iret hX hR (by decide) (by decide) dX4_get_25

set_option maxHeartbeats 4000000 in
theorem l_X4_insert_46 {X : Cx} (hX : CxOK X RX4 cX4_insert 3 0 0 0 0 none) (hE0 : CxE X []) {o : Nat → Nat} {hn : Nat} {t : Nat} {x1 : Int32} {G : Mel} (ht : tb hn t) : ∀ (f : Nat) (y2 : Int32) (M3 : Mem) (p7 : Int32 × Mem), L_X4_insert_46 t x1 f y2 M3 = some p7 → WM X o hn p7.2 G 0 0 81 3 [(0, .ref (o t)), (1, .int x1), (2, .int p7.1)] [] → WM X o hn M3 G 0 0 46 3 [(0, .ref (o t)), (1, .int x1), (2, .int y2)] [] := by
  intro f
  induction f with
  | zero => intro y2 M3 p7 hE; simp [L_X4_insert_46] at hE
  | succ f ih =>
    intro y2 M3 p7 hE hx
    rw [L_X4_insert_46] at hE
    refine q_iload_n (pc := 46) hX 2 rfl rfl dX4_insert_46 ?_
    refine q_iload_n (pc := 47) hX 1 rfl rfl dX4_insert_47 ?_
    refine q_iconst (pc := 48) hX (1) rfl dX4_insert_48 ?_
    refine q_iadd (pc := 49) hX dX4_insert_49 ?_
    refine q_aload_n (pc := 50) hX 0 rfl rfl dX4_insert_50 ?_
    refine q_get (pc := 51) (id := t) (ci := 4) (N := 3) (T := TX4) (C := RX4) hX 0 (tb_lt ht) (ob_T ht.1 _ _) rfl in_X4 (by decide) (Or.inl kw_38) rfl dX4_insert_51 ?_
    refine q_imul (pc := 54) hX dX4_insert_54 ?_
    refine q_icmp_lt (pc := 55) hX 81 (by decide) dX4_insert_55 (fun c => ?_) (fun c => ?_)
    · rw [if_pos c] at hE
      cases hE
      exact hx
    · rw [if_neg c] at hE
      refine q_aload_n (pc := 58) hX 0 rfl rfl dX4_insert_58 ?_
      refine q_get (pc := 59) (id := t) (ci := 4) (N := 3) (T := TX4) (C := RX4) hX 1 (tb_lt ht) (ob_T ht.1 _ _) rfl in_X4 (by decide) (Or.inl kw_40) rfl dX4_insert_59 ?_
      refine q_iload_n (pc := 62) hX 2 rfl rfl dX4_insert_62 ?_
      refine q_aload_n (pc := 63) hX 0 rfl rfl dX4_insert_63 ?_
      refine q_get (pc := 64) (id := t) (ci := 4) (N := 3) (T := TX4) (C := RX4) hX 1 (tb_lt ht) (ob_T ht.1 _ _) rfl in_X4 (by decide) (Or.inl kw_40) rfl dX4_insert_64 ?_
      refine q_iload_n (pc := 67) hX 2 rfl rfl dX4_insert_67 ?_
      refine q_aload_n (pc := 68) hX 0 rfl rfl dX4_insert_68 ?_
      refine q_get (pc := 69) (id := t) (ci := 4) (N := 3) (T := TX4) (C := RX4) hX 0 (tb_lt ht) (ob_T ht.1 _ _) rfl in_X4 (by decide) (Or.inl kw_38) rfl dX4_insert_69 ?_
      refine q_isub (pc := 72) hX dX4_insert_72 ?_
      obtain ⟨v4, hv4, hE⟩ := ob_bind hE
      refine r_iald (pc := 73) (id := (t + 1)) (n := (tl t)) hX ht.2 (fun f g => ob_C ht.1 f g) hv4 dX4_insert_73 ?_
      obtain ⟨M5, hM5, hE⟩ := ob_bind hE
      refine r_iast (pc := 74) (id := (t + 1)) (n := (tl t)) hX ht.2 (fun f g => ob_C ht.1 f g) hM5 dX4_insert_74 ?_
      obtain ⟨z6, hz6⟩ : ∃ z : Int32, z = y2 + (-1) := ⟨_, rfl⟩
      have hE := bnd_nm hz6 hE
      refine q_iinc (pc := 75) hX 2 z6 [1, 2, 0] rfl (by rw [hz6]; rfl) (by decide) rfl dX4_insert_75 ?_
      refine q_goto (pc := 78) hX 46 (by decide) dX4_insert_78 ?_
      exact ih _ _ p7 hE hx

set_option maxHeartbeats 4000000 in
theorem c_X4_insert {Y : Lx} {o : Nat → Nat} {hn : Nat} {M : Mem} {G : Mel} {t : Nat} {x1 : Int32} {Mr : Mem} (ht : tb hn t) (hE : s_X4_insert M t x1 = some (Mr)) : MI Y yX4_insert cX4_insert 3 none 0 0 0 0 [.ref (o t), .int x1] o hn M G (.inl (none)) Mr G := by
  refine MI.of (by decide +kernel) (Nat.le_of_ble_eq_true rfl) (fun X hY hX hE0 hR => ?_)
  change CxOK X RX4 cX4_insert 3 0 0 0 0 none at hX
  show WM X o hn M G 0 0 0 3 [(0, .ref (o t)), (1, .int x1)] []
  unfold s_X4_insert at hE
  refine q_iload_n (pc := 0) hX 1 rfl rfl dX4_insert_0 ?_
  refine q_if_lt (pc := 1) hX 31 (by decide) dX4_insert_1 (fun c => ?_) (fun c => ?_)
  · rw [if_pos c] at hE
    cases hE
    exact q_vret hX hR (by decide) (by decide) dX4_insert_31
  · rw [if_neg c] at hE
    refine q_iload_n (pc := 4) hX 1 rfl rfl dX4_insert_4 ?_
    refine q_aload_n (pc := 5) hX 0 rfl rfl dX4_insert_5 ?_
    refine q_get (pc := 6) (id := t) (ci := 4) (N := 3) (T := TX4) (C := RX4) hX 2 (tb_lt ht) (ob_T ht.1 _ _) rfl in_X4 (by decide) (Or.inl kw_41) rfl dX4_insert_6 ?_
    refine q_icmp_gt (pc := 9) hX 31 (by decide) dX4_insert_9 (fun c => ?_) (fun c => ?_)
    · rw [if_pos c] at hE
      cases hE
      exact q_vret hX hR (by decide) (by decide) dX4_insert_31
    · rw [if_neg c] at hE
      refine q_aload_n (pc := 12) hX 0 rfl rfl dX4_insert_12 ?_
      refine q_get (pc := 13) (id := t) (ci := 4) (N := 3) (T := TX4) (C := RX4) hX 2 (tb_lt ht) (ob_T ht.1 _ _) rfl in_X4 (by decide) (Or.inl kw_41) rfl dX4_insert_13 ?_
      refine q_iconst (pc := 16) hX (1) rfl dX4_insert_16 ?_
      refine q_iadd (pc := 17) hX dX4_insert_17 ?_
      refine q_aload_n (pc := 18) hX 0 rfl rfl dX4_insert_18 ?_
      refine q_get (pc := 19) (id := t) (ci := 4) (N := 3) (T := TX4) (C := RX4) hX 0 (tb_lt ht) (ob_T ht.1 _ _) rfl in_X4 (by decide) (Or.inl kw_38) rfl dX4_insert_19 ?_
      refine q_imul (pc := 22) hX dX4_insert_22 ?_
      refine q_aload_n (pc := 23) hX 0 rfl rfl dX4_insert_23 ?_
      refine q_get (pc := 24) (id := t) (ci := 4) (N := 3) (T := TX4) (C := RX4) hX 1 (tb_lt ht) (ob_T ht.1 _ _) rfl in_X4 (by decide) (Or.inl kw_40) rfl dX4_insert_24 ?_
      refine r_alen (pc := 27) (id := (t + 1)) (n := (tl t)) hX (nI (tl t)) ht.2 (fun f g => ob_C ht.1 f g) rfl dX4_insert_27 ?_
      refine q_icmp_le (pc := 28) hX 32 (by decide) dX4_insert_28 (fun c => ?_) (fun c => ?_)
      · rw [if_pos c] at hE
        refine q_aload_n (pc := 32) hX 0 rfl rfl dX4_insert_32 ?_
        refine q_get (pc := 33) (id := t) (ci := 4) (N := 3) (T := TX4) (C := RX4) hX 2 (tb_lt ht) (ob_T ht.1 _ _) rfl in_X4 (by decide) (Or.inl kw_41) rfl dX4_insert_33 ?_
        refine q_iconst (pc := 36) hX (1) rfl dX4_insert_36 ?_
        refine q_iadd (pc := 37) hX dX4_insert_37 ?_
        refine q_aload_n (pc := 38) hX 0 rfl rfl dX4_insert_38 ?_
        refine q_get (pc := 39) (id := t) (ci := 4) (N := 3) (T := TX4) (C := RX4) hX 0 (tb_lt ht) (ob_T ht.1 _ _) rfl in_X4 (by decide) (Or.inl kw_38) rfl dX4_insert_39 ?_
        refine q_imul (pc := 42) hX dX4_insert_42 ?_
        refine q_iconst (pc := 43) hX (1) rfl dX4_insert_43 ?_
        refine q_isub (pc := 44) hX dX4_insert_44 ?_
        refine q_nm (fun z1 hz1 => ?_)
        have hE := bnd_nm hz1 hE
        refine q_istore_n (pc := 45) hX [1, 2, 0] rfl (by decide) rfl dX4_insert_45 ?_
        obtain ⟨p7, hp7, hE⟩ := ob_bind hE
        refine l_X4_insert_46 hX hE0 ht FU _ _ p7 hp7 ?_
        refine q_aload_n (pc := 81) hX 0 rfl rfl dX4_insert_81 ?_
        refine q_dup (pc := 82) hX rfl dX4_insert_82 ?_
        refine q_get (pc := 83) (id := t) (ci := 4) (N := 3) (T := TX4) (C := RX4) hX 2 (tb_lt ht) (ob_T ht.1 _ _) rfl in_X4 (by decide) (Or.inl kw_41) rfl dX4_insert_83 ?_
        refine q_iconst (pc := 86) hX (1) rfl dX4_insert_86 ?_
        refine q_iadd (pc := 87) hX dX4_insert_87 ?_
        obtain ⟨M8, hM8⟩ : ∃ z : Mem, z = mst p7.2 t 2 ((p7.2 t 2) + 1) := ⟨_, rfl⟩
        have hE := bnd_nm hM8 hE
        refine pu_T_rows (pc := 88) hX ht hM8 (Or.inl kw_41) dX4_insert_88 ?_
        cases hE
        exact q_vret hX hR (by decide) (by decide) dX4_insert_91
      · rw [if_neg c] at hE
        cases hE
        exact q_vret hX hR (by decide) (by decide) dX4_insert_31

set_option maxHeartbeats 4000000 in
theorem c_X4_set {Y : Lx} {o : Nat → Nat} {hn : Nat} {M : Mem} {G : Mel} {t : Nat} {x1 : Int32} {x2 : Int32} {x3 : Int32} {Mr : Mem} (ht : tb hn t) (hE : s_X4_set M t x1 x2 x3 = some (Mr)) : MI Y yX4_set cX4_set 5 none 0 0 0 0 [.ref (o t), .int x1, .int x2, .int x3] o hn M G (.inl (none)) Mr G := by
  refine MI.of (by decide +kernel) (Nat.le_of_ble_eq_true rfl) (fun X hY hX hE0 hR => ?_)
  change CxOK X RX4 cX4_set 5 0 0 0 0 none at hX
  show WM X o hn M G 0 0 0 5 [(0, .ref (o t)), (1, .int x1), (2, .int x2), (3, .int x3)] []
  unfold s_X4_set at hE
  refine q_iload_n (pc := 0) hX 1 rfl rfl dX4_set_0 ?_
  refine q_if_lt (pc := 1) hX 24 (by decide) dX4_set_1 (fun c => ?_) (fun c => ?_)
  · rw [if_pos c] at hE
    cases hE
    exact q_vret hX hR (by decide) (by decide) dX4_set_24
  · rw [if_neg c] at hE
    refine q_iload_n (pc := 4) hX 1 rfl rfl dX4_set_4 ?_
    refine q_aload_n (pc := 5) hX 0 rfl rfl dX4_set_5 ?_
    refine q_get (pc := 6) (id := t) (ci := 4) (N := 3) (T := TX4) (C := RX4) hX 2 (tb_lt ht) (ob_T ht.1 _ _) rfl in_X4 (by decide) (Or.inl kw_41) rfl dX4_set_6 ?_
    refine q_icmp_ge (pc := 9) hX 24 (by decide) dX4_set_9 (fun c => ?_) (fun c => ?_)
    · rw [if_pos c] at hE
      cases hE
      exact q_vret hX hR (by decide) (by decide) dX4_set_24
    · rw [if_neg c] at hE
      refine q_iload_n (pc := 12) hX 2 rfl rfl dX4_set_12 ?_
      refine q_if_lt (pc := 13) hX 24 (by decide) dX4_set_13 (fun c => ?_) (fun c => ?_)
      · rw [if_pos c] at hE
        cases hE
        exact q_vret hX hR (by decide) (by decide) dX4_set_24
      · rw [if_neg c] at hE
        refine q_iload_n (pc := 16) hX 2 rfl rfl dX4_set_16 ?_
        refine q_aload_n (pc := 17) hX 0 rfl rfl dX4_set_17 ?_
        refine q_get (pc := 18) (id := t) (ci := 4) (N := 3) (T := TX4) (C := RX4) hX 0 (tb_lt ht) (ob_T ht.1 _ _) rfl in_X4 (by decide) (Or.inl kw_38) rfl dX4_set_18 ?_
        refine q_icmp_lt (pc := 21) hX 25 (by decide) dX4_set_21 (fun c => ?_) (fun c => ?_)
        · rw [if_pos c] at hE
          refine q_iload_n (pc := 25) hX 1 rfl rfl dX4_set_25 ?_
          refine q_aload_n (pc := 26) hX 0 rfl rfl dX4_set_26 ?_
          refine q_get (pc := 27) (id := t) (ci := 4) (N := 3) (T := TX4) (C := RX4) hX 0 (tb_lt ht) (ob_T ht.1 _ _) rfl in_X4 (by decide) (Or.inl kw_38) rfl dX4_set_27 ?_
          refine q_imul (pc := 30) hX dX4_set_30 ?_
          refine q_iload_n (pc := 31) hX 2 rfl rfl dX4_set_31 ?_
          refine q_iadd (pc := 32) hX dX4_set_32 ?_
          refine q_nm (fun z1 hz1 => ?_)
          have hE := bnd_nm hz1 hE
          refine q_istore (pc := 33) hX [1, 2, 3, 4, 0] (by decide) rfl dX4_set_33 ?_
          refine q_iload (pc := 35) hX 4 rfl dX4_set_35 ?_
          refine q_if_lt (pc := 37) hX 58 (by decide) dX4_set_37 (fun c => ?_) (fun c => ?_)
          · rw [if_pos c] at hE
            cases hE
            exact q_vret hX hR (by decide) (by decide) dX4_set_58
          · rw [if_neg c] at hE
            refine q_iload (pc := 40) hX 4 rfl dX4_set_40 ?_
            refine q_aload_n (pc := 42) hX 0 rfl rfl dX4_set_42 ?_
            refine q_get (pc := 43) (id := t) (ci := 4) (N := 3) (T := TX4) (C := RX4) hX 1 (tb_lt ht) (ob_T ht.1 _ _) rfl in_X4 (by decide) (Or.inl kw_40) rfl dX4_set_43 ?_
            refine r_alen (pc := 46) (id := (t + 1)) (n := (tl t)) hX (nI (tl t)) ht.2 (fun f g => ob_C ht.1 f g) rfl dX4_set_46 ?_
            refine q_icmp_ge (pc := 47) hX 58 (by decide) dX4_set_47 (fun c => ?_) (fun c => ?_)
            · rw [if_pos c] at hE
              cases hE
              exact q_vret hX hR (by decide) (by decide) dX4_set_58
            · rw [if_neg c] at hE
              refine q_aload_n (pc := 50) hX 0 rfl rfl dX4_set_50 ?_
              refine q_get (pc := 51) (id := t) (ci := 4) (N := 3) (T := TX4) (C := RX4) hX 1 (tb_lt ht) (ob_T ht.1 _ _) rfl in_X4 (by decide) (Or.inl kw_40) rfl dX4_set_51 ?_
              refine q_iload (pc := 54) hX 4 rfl dX4_set_54 ?_
              refine q_iload_n (pc := 56) hX 3 rfl rfl dX4_set_56 ?_
              obtain ⟨M2, hM2, hE⟩ := ob_bind hE
              refine r_iast (pc := 57) (id := (t + 1)) (n := (tl t)) hX ht.2 (fun f g => ob_C ht.1 f g) hM2 dX4_set_57 ?_
              cases hE
              exact q_vret hX hR (by decide) (by decide) dX4_set_58
        · rw [if_neg c] at hE
          cases hE
          exact q_vret hX hR (by decide) (by decide) dX4_set_24

set_option maxHeartbeats 4000000 in
theorem l_X4_remove_39 {X : Cx} (hX : CxOK X RX4 cX4_remove 3 0 0 0 0 none) (hE0 : CxE X []) {o : Nat → Nat} {hn : Nat} {t : Nat} {G : Mel} (ht : tb hn t) : ∀ (f : Nat) (y2 : Int32) (M3 : Mem) (p7 : Int32 × Mem), L_X4_remove_39 t f y2 M3 = some p7 → WM X o hn p7.2 G 0 0 75 3 [(0, .ref (o t)), (2, .int p7.1)] [] → WM X o hn M3 G 0 0 39 3 [(0, .ref (o t)), (2, .int y2)] [] := by
  intro f
  induction f with
  | zero => intro y2 M3 p7 hE; simp [L_X4_remove_39] at hE
  | succ f ih =>
    intro y2 M3 p7 hE hx
    rw [L_X4_remove_39] at hE
    refine q_iload_n (pc := 39) hX 1 rfl rfl dX4_remove_39 ?_
    refine q_aload_n (pc := 40) hX 0 rfl rfl dX4_remove_40 ?_
    refine q_get (pc := 41) (id := t) (ci := 4) (N := 3) (T := TX4) (C := RX4) hX 2 (tb_lt ht) (ob_T ht.1 _ _) rfl in_X4 (by decide) (Or.inl kw_41) rfl dX4_remove_41 ?_
    refine q_aload_n (pc := 44) hX 0 rfl rfl dX4_remove_44 ?_
    refine q_get (pc := 45) (id := t) (ci := 4) (N := 3) (T := TX4) (C := RX4) hX 0 (tb_lt ht) (ob_T ht.1 _ _) rfl in_X4 (by decide) (Or.inl kw_38) rfl dX4_remove_45 ?_
    refine q_imul (pc := 48) hX dX4_remove_48 ?_
    refine q_icmp_ge (pc := 49) hX 75 (by decide) dX4_remove_49 (fun c => ?_) (fun c => ?_)
    · rw [if_pos c] at hE
      cases hE
      exact hx
    · rw [if_neg c] at hE
      refine q_aload_n (pc := 52) hX 0 rfl rfl dX4_remove_52 ?_
      refine q_get (pc := 53) (id := t) (ci := 4) (N := 3) (T := TX4) (C := RX4) hX 1 (tb_lt ht) (ob_T ht.1 _ _) rfl in_X4 (by decide) (Or.inl kw_40) rfl dX4_remove_53 ?_
      refine q_iload_n (pc := 56) hX 1 rfl rfl dX4_remove_56 ?_
      refine q_aload_n (pc := 57) hX 0 rfl rfl dX4_remove_57 ?_
      refine q_get (pc := 58) (id := t) (ci := 4) (N := 3) (T := TX4) (C := RX4) hX 0 (tb_lt ht) (ob_T ht.1 _ _) rfl in_X4 (by decide) (Or.inl kw_38) rfl dX4_remove_58 ?_
      refine q_isub (pc := 61) hX dX4_remove_61 ?_
      refine q_aload_n (pc := 62) hX 0 rfl rfl dX4_remove_62 ?_
      refine q_get (pc := 63) (id := t) (ci := 4) (N := 3) (T := TX4) (C := RX4) hX 1 (tb_lt ht) (ob_T ht.1 _ _) rfl in_X4 (by decide) (Or.inl kw_40) rfl dX4_remove_63 ?_
      refine q_iload_n (pc := 66) hX 1 rfl rfl dX4_remove_66 ?_
      obtain ⟨v4, hv4, hE⟩ := ob_bind hE
      refine r_iald (pc := 67) (id := (t + 1)) (n := (tl t)) hX ht.2 (fun f g => ob_C ht.1 f g) hv4 dX4_remove_67 ?_
      obtain ⟨M5, hM5, hE⟩ := ob_bind hE
      refine r_iast (pc := 68) (id := (t + 1)) (n := (tl t)) hX ht.2 (fun f g => ob_C ht.1 f g) hM5 dX4_remove_68 ?_
      obtain ⟨z6, hz6⟩ : ∃ z : Int32, z = y2 + 1 := ⟨_, rfl⟩
      have hE := bnd_nm hz6 hE
      refine q_iinc (pc := 69) hX 1 z6 [1, 0] rfl (by rw [hz6]; rfl) (by decide) rfl dX4_remove_69 ?_
      refine q_goto (pc := 72) hX 39 (by decide) dX4_remove_72 ?_
      exact ih _ _ p7 hE hx

set_option maxHeartbeats 4000000 in
theorem c_X4_remove {Y : Lx} {o : Nat → Nat} {hn : Nat} {M : Mem} {G : Mel} {t : Nat} {x1 : Int32} {Mr : Mem} (ht : tb hn t) (hE : s_X4_remove M t x1 = some (Mr)) : MI Y yX4_remove cX4_remove 3 none 0 0 0 0 [.ref (o t), .int x1] o hn M G (.inl (none)) Mr G := by
  refine MI.of (by decide +kernel) (Nat.le_of_ble_eq_true rfl) (fun X hY hX hE0 hR => ?_)
  change CxOK X RX4 cX4_remove 3 0 0 0 0 none at hX
  show WM X o hn M G 0 0 0 3 [(0, .ref (o t)), (1, .int x1)] []
  unfold s_X4_remove at hE
  refine q_iload_n (pc := 0) hX 1 rfl rfl dX4_remove_0 ?_
  refine q_if_lt (pc := 1) hX 29 (by decide) dX4_remove_1 (fun c => ?_) (fun c => ?_)
  · rw [if_pos c] at hE
    cases hE
    exact q_vret hX hR (by decide) (by decide) dX4_remove_29
  · rw [if_neg c] at hE
    refine q_iload_n (pc := 4) hX 1 rfl rfl dX4_remove_4 ?_
    refine q_aload_n (pc := 5) hX 0 rfl rfl dX4_remove_5 ?_
    refine q_get (pc := 6) (id := t) (ci := 4) (N := 3) (T := TX4) (C := RX4) hX 2 (tb_lt ht) (ob_T ht.1 _ _) rfl in_X4 (by decide) (Or.inl kw_41) rfl dX4_remove_6 ?_
    refine q_icmp_ge (pc := 9) hX 29 (by decide) dX4_remove_9 (fun c => ?_) (fun c => ?_)
    · rw [if_pos c] at hE
      cases hE
      exact q_vret hX hR (by decide) (by decide) dX4_remove_29
    · rw [if_neg c] at hE
      refine q_aload_n (pc := 12) hX 0 rfl rfl dX4_remove_12 ?_
      refine q_get (pc := 13) (id := t) (ci := 4) (N := 3) (T := TX4) (C := RX4) hX 2 (tb_lt ht) (ob_T ht.1 _ _) rfl in_X4 (by decide) (Or.inl kw_41) rfl dX4_remove_13 ?_
      refine q_aload_n (pc := 16) hX 0 rfl rfl dX4_remove_16 ?_
      refine q_get (pc := 17) (id := t) (ci := 4) (N := 3) (T := TX4) (C := RX4) hX 0 (tb_lt ht) (ob_T ht.1 _ _) rfl in_X4 (by decide) (Or.inl kw_38) rfl dX4_remove_17 ?_
      refine q_imul (pc := 20) hX dX4_remove_20 ?_
      refine q_aload_n (pc := 21) hX 0 rfl rfl dX4_remove_21 ?_
      refine q_get (pc := 22) (id := t) (ci := 4) (N := 3) (T := TX4) (C := RX4) hX 1 (tb_lt ht) (ob_T ht.1 _ _) rfl in_X4 (by decide) (Or.inl kw_40) rfl dX4_remove_22 ?_
      refine r_alen (pc := 25) (id := (t + 1)) (n := (tl t)) hX (nI (tl t)) ht.2 (fun f g => ob_C ht.1 f g) rfl dX4_remove_25 ?_
      refine q_icmp_le (pc := 26) hX 30 (by decide) dX4_remove_26 (fun c => ?_) (fun c => ?_)
      · rw [if_pos c] at hE
        refine q_iload_n (pc := 30) hX 1 rfl rfl dX4_remove_30 ?_
        refine q_iconst (pc := 31) hX (1) rfl dX4_remove_31 ?_
        refine q_iadd (pc := 32) hX dX4_remove_32 ?_
        refine q_aload_n (pc := 33) hX 0 rfl rfl dX4_remove_33 ?_
        refine q_get (pc := 34) (id := t) (ci := 4) (N := 3) (T := TX4) (C := RX4) hX 0 (tb_lt ht) (ob_T ht.1 _ _) rfl in_X4 (by decide) (Or.inl kw_38) rfl dX4_remove_34 ?_
        refine q_imul (pc := 37) hX dX4_remove_37 ?_
        refine q_nm (fun z1 hz1 => ?_)
        have hE := bnd_nm hz1 hE
        refine q_istore_n (pc := 38) hX [1, 2, 0] rfl (by decide) rfl dX4_remove_38 ?_
        obtain ⟨p7, hp7, hE⟩ := ob_bind hE
        refine q_lo [0, 2] rfl ?_
        refine l_X4_remove_39 hX hE0 ht FU _ _ p7 hp7 ?_
        refine q_aload_n (pc := 75) hX 0 rfl rfl dX4_remove_75 ?_
        refine q_dup (pc := 76) hX rfl dX4_remove_76 ?_
        refine q_get (pc := 77) (id := t) (ci := 4) (N := 3) (T := TX4) (C := RX4) hX 2 (tb_lt ht) (ob_T ht.1 _ _) rfl in_X4 (by decide) (Or.inl kw_41) rfl dX4_remove_77 ?_
        refine q_iconst (pc := 80) hX (1) rfl dX4_remove_80 ?_
        refine q_isub (pc := 81) hX dX4_remove_81 ?_
        obtain ⟨M8, hM8⟩ : ∃ z : Mem, z = mst p7.2 t 2 ((p7.2 t 2) - 1) := ⟨_, rfl⟩
        have hE := bnd_nm hM8 hE
        refine pu_T_rows (pc := 82) hX ht hM8 (Or.inl kw_41) dX4_remove_82 ?_
        cases hE
        exact q_vret hX hR (by decide) (by decide) dX4_remove_85
      · rw [if_neg c] at hE
        cases hE
        exact q_vret hX hR (by decide) (by decide) dX4_remove_29

set_option maxHeartbeats 4000000 in
theorem c_X4_addSpan {Y : Lx} {o : Nat → Nat} {hn : Nat} {M : Mem} {G : Mel} {t : Nat} {x1 : Int32} {x2 : Int32} {Mr : Mem} (ht : tb hn t) (hE : s_X4_addSpan M t x1 x2 = some (Mr)) : MI Y yX4_addSpan cX4_addSpan 4 none 1 24 0 0 [.ref (o t), .int x1, .int x2] o hn M G (.inl (none)) Mr G := by
  refine MI.of (by decide +kernel) (Nat.le_of_ble_eq_true rfl) (fun X hY hX hE0 hR => ?_)
  change CxOK X RX4 cX4_addSpan 4 1 24 0 0 none at hX
  show WM X o hn M G 0 0 0 4 [(0, .ref (o t)), (1, .int x1), (2, .int x2)] []
  unfold s_X4_addSpan at hE
  refine q_aload_n (pc := 0) hX 0 rfl rfl dX4_addSpan_0 ?_
  refine q_get (pc := 1) (id := t) (ci := 4) (N := 3) (T := TX4) (C := RX4) hX 2 (tb_lt ht) (ob_T ht.1 _ _) rfl in_X4 (by decide) (Or.inl kw_41) rfl dX4_addSpan_1 ?_
  refine q_nm (fun z1 hz1 => ?_)
  have hE := bnd_nm hz1 hE
  refine q_istore_n (pc := 4) hX [1, 2, 3, 0] rfl (by decide) rfl dX4_addSpan_4 ?_
  refine q_aload_n (pc := 5) hX 0 rfl rfl dX4_addSpan_5 ?_
  refine q_iload_n (pc := 6) hX 3 rfl rfl dX4_addSpan_6 ?_
  obtain ⟨r2, hr2, hE⟩ := ob_bind hE
  refine q_callV (pc := 7) (id := t) (As := [.int z1]) (rest := []) (rv := none) hX (c_X4_insert ht hr2) (vl_X4_22) (tb_lt ht) (ob_T ht.1 _ _) rfl rfl pd_yX4_insert rfl ⟨by decide, by decide⟩ ⟨by decide, by decide⟩ rfl (by decide) rfl dX4_addSpan_7 ?_
  refine q_aload_n (pc := 10) hX 0 rfl rfl dX4_addSpan_10 ?_
  refine q_iload_n (pc := 11) hX 3 rfl rfl dX4_addSpan_11 ?_
  refine q_iconst (pc := 12) hX (0) rfl dX4_addSpan_12 ?_
  refine q_iload_n (pc := 13) hX 1 rfl rfl dX4_addSpan_13 ?_
  obtain ⟨r3, hr3, hE⟩ := ob_bind hE
  refine q_callV (pc := 14) (id := t) (As := [.int z1, .int 0, .int x1]) (rest := []) (rv := none) hX (c_X4_set ht hr3) (vl_X4_26) (tb_lt ht) (ob_T ht.1 _ _) rfl rfl pd_yX4_set rfl ⟨by decide, by decide⟩ ⟨by decide, by decide⟩ rfl (by decide) rfl dX4_addSpan_14 ?_
  refine q_aload_n (pc := 17) hX 0 rfl rfl dX4_addSpan_17 ?_
  refine q_iload_n (pc := 18) hX 3 rfl rfl dX4_addSpan_18 ?_
  refine q_iconst (pc := 19) hX (1) rfl dX4_addSpan_19 ?_
  refine q_iload_n (pc := 20) hX 2 rfl rfl dX4_addSpan_20 ?_
  obtain ⟨r4, hr4, hE⟩ := ob_bind hE
  refine q_callV (pc := 21) (id := t) (As := [.int z1, .int 1, .int x2]) (rest := []) (rv := none) hX (c_X4_set ht hr4) (vl_X4_26) (tb_lt ht) (ob_T ht.1 _ _) rfl rfl pd_yX4_set rfl ⟨by decide, by decide⟩ ⟨by decide, by decide⟩ rfl (by decide) rfl dX4_addSpan_21 ?_
  cases hE
  exact q_vret hX hR (by decide) (by decide) dX4_addSpan_24

set_option maxHeartbeats 4000000 in
theorem c_X4_clear {Y : Lx} {o : Nat → Nat} {hn : Nat} {M : Mem} {G : Mel} {t : Nat} {Mr : Mem} (ht : tb hn t) (hE : s_X4_clear M t = some (Mr)) : MI Y yX4_clear cX4_clear 1 none 0 0 0 0 [.ref (o t)] o hn M G (.inl (none)) Mr G := by
  refine MI.of (by decide +kernel) (Nat.le_of_ble_eq_true rfl) (fun X hY hX hE0 hR => ?_)
  change CxOK X RX4 cX4_clear 1 0 0 0 0 none at hX
  show WM X o hn M G 0 0 0 1 [(0, .ref (o t))] []
  unfold s_X4_clear at hE
  refine q_aload_n (pc := 0) hX 0 rfl rfl dX4_clear_0 ?_
  refine q_iconst (pc := 1) hX (0) rfl dX4_clear_1 ?_
  obtain ⟨M1, hM1⟩ : ∃ z : Mem, z = mst M t 2 0 := ⟨_, rfl⟩
  have hE := bnd_nm hM1 hE
  refine pu_T_rows (pc := 2) hX ht hM1 (Or.inl kw_41) dX4_clear_2 ?_
  cases hE
  exact q_vret hX hR (by decide) (by decide) dX4_clear_5

set_option maxHeartbeats 4000000 in
theorem c_X0_beginNextWeek {Y : Lx} {o : Nat → Nat} {hn : Nat} {M : Mem} {G : Mel} {e : Nat} {x1 : Int32} {Mr : Mem} {Gr : Mel} (he : em hn e) (hE : s_X0_beginNextWeek M G e x1 = some (Mr, Gr)) : MI Y yX0_beginNextWeek cX0_beginNextWeek 2 none 1 20 0 0 [.ref (o e), .int x1] o hn M G (.inl (none)) Mr Gr := by
  refine MI.of (by decide +kernel) (Nat.le_of_ble_eq_true rfl) (fun X hY hX hE0 hR => ?_)
  change CxOK X RX0 cX0_beginNextWeek 2 1 20 0 0 none at hX
  show WM X o hn M G 0 0 0 2 [(0, .ref (o e)), (1, .int x1)] []
  unfold s_X0_beginNextWeek at hE
  refine q_aload_n (pc := 0) hX 0 rfl rfl dX0_beginNextWeek_0 ?_
  refine q_dup (pc := 1) hX rfl dX0_beginNextWeek_1 ?_
  refine q_get (pc := 2) (id := e) (ci := 0) (N := 6) (T := TX0) (C := RX0) hX 2 (em_lt he) (ob_E he _ _) rfl in_X0 (by decide) (Or.inl kw_133) rfl dX0_beginNextWeek_2 ?_
  refine q_iload_n (pc := 5) hX 1 rfl rfl dX0_beginNextWeek_5 ?_
  refine q_i2l (pc := 6) hX dX0_beginNextWeek_6 ?_
  refine q_ladd (pc := 7) hX dX0_beginNextWeek_7 ?_
  obtain ⟨G1, hG1⟩ : ∃ z : Mel, z = mstL G e 2 ((G e 2) + x1.toInt64) := ⟨_, rfl⟩
  have hE := bnd_nm hG1 hE
  refine pu_E_earn (pc := 8) hX he hG1 (Or.inl kw_133) dX0_beginNextWeek_8 ?_
  refine q_aload_n (pc := 11) hX 0 rfl rfl dX0_beginNextWeek_11 ?_
  refine q_dup (pc := 12) hX rfl dX0_beginNextWeek_12 ?_
  refine q_get (pc := 13) (id := e) (ci := 0) (N := 6) (T := TX0) (C := RX0) hX 1 (em_lt he) (ob_E he _ _) rfl in_X0 (by decide) (Or.inl kw_132) rfl dX0_beginNextWeek_13 ?_
  refine q_iconst (pc := 16) hX (1) rfl dX0_beginNextWeek_16 ?_
  refine q_iadd (pc := 17) hX dX0_beginNextWeek_17 ?_
  obtain ⟨M2, hM2⟩ : ∃ z : Mem, z = mst M e 1 ((M e 1) + 1) := ⟨_, rfl⟩
  have hE := bnd_nm hM2 hE
  refine pu_E_weeks (pc := 18) hX he hM2 (Or.inl kw_132) dX0_beginNextWeek_18 ?_
  refine q_aload_n (pc := 21) hX 0 rfl rfl dX0_beginNextWeek_21 ?_
  refine q_get (pc := 22) (id := e) (ci := 0) (N := 6) (T := TX0) (C := RX0) hX 3 (em_lt he) (ob_E he _ _) rfl in_X0 (by decide) (Or.inl kw_135) rfl dX0_beginNextWeek_22 ?_
  obtain ⟨r3, hr3, hE⟩ := ob_bind hE
  refine q_callV (pc := 25) (id := (e + 1)) (As := []) (rest := []) (rv := none) hX (c_X4_clear (tb_e1 he) hr3) (vl_X0_37) (tb_lt (tb_e1 he)) (ob_T (tb_e1 he).1 _ _) rfl rfl pd_yX4_clear rfl ⟨by decide, by decide⟩ ⟨by decide, by decide⟩ rfl (by decide) rfl dX0_beginNextWeek_25 ?_
  refine q_aload_n (pc := 28) hX 0 rfl rfl dX0_beginNextWeek_28 ?_
  refine q_get (pc := 29) (id := e) (ci := 0) (N := 6) (T := TX0) (C := RX0) hX 4 (em_lt he) (ob_E he _ _) rfl in_X0 (by decide) (Or.inl kw_136) rfl dX0_beginNextWeek_29 ?_
  obtain ⟨r4, hr4, hE⟩ := ob_bind hE
  refine q_callV (pc := 32) (id := (e + 3)) (As := []) (rest := []) (rv := none) hX (c_X4_clear (tb_e3 he) hr4) (vl_X0_37) (tb_lt (tb_e3 he)) (ob_T (tb_e3 he).1 _ _) rfl rfl pd_yX4_clear rfl ⟨by decide, by decide⟩ ⟨by decide, by decide⟩ rfl (by decide) rfl dX0_beginNextWeek_32 ?_
  refine q_aload_n (pc := 35) hX 0 rfl rfl dX0_beginNextWeek_35 ?_
  refine q_get (pc := 36) (id := e) (ci := 0) (N := 6) (T := TX0) (C := RX0) hX 5 (em_lt he) (ob_E he _ _) rfl in_X0 (by decide) (Or.inl kw_137) rfl dX0_beginNextWeek_36 ?_
  obtain ⟨r5, hr5, hE⟩ := ob_bind hE
  refine q_callV (pc := 39) (id := (e + 5)) (As := []) (rest := []) (rv := none) hX (c_X4_clear (tb_e5 he) hr5) (vl_X0_37) (tb_lt (tb_e5 he)) (ob_T (tb_e5 he).1 _ _) rfl rfl pd_yX4_clear rfl ⟨by decide, by decide⟩ ⟨by decide, by decide⟩ rfl (by decide) rfl dX0_beginNextWeek_39 ?_
  cases hE
  exact q_vret hX hR (by decide) (by decide) dX0_beginNextWeek_42
end

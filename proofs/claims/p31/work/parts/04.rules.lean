/-! One world for everything: cells by number ('ids'), their addresses by o; a memory M (ints) and G (longs). -/
abbrev Mem : Type := Nat → Nat → Int32
abbrev Mel : Type := Nat → Nat → Int64
def mst (M : Mem) (k j : Nat) (v : Int32) : Mem := fun q => if q = k then upd (M k) j v else M q
def mstL (G : Mel) (k j : Nat) (v : Int64) : Mel := fun q => if q = k then vp_updL (G k) j v else G q
theorem mst_self (M : Mem) (k j : Nat) (v : Int32) : mst M k j v k = upd (M k) j v := by simp [mst]
theorem mst_ne (M : Mem) {k q : Nat} (j : Nat) (v : Int32) (h : q ≠ k) : mst M k j v q = M q := by simp [mst, h]
theorem mstL_self (G : Mel) (k j : Nat) (v : Int64) : mstL G k j v k = vp_updL (G k) j v := by simp [mstL]
theorem mstL_ne (G : Mel) {k q : Nat} (j : Nat) (v : Int64) (h : q ≠ k) : mstL G k j v q = G q := by simp [mstL, h]
/-- width of the table k; the number of its cells (they are the cell k + 1) -/
def tw (k : Nat) : Int32 := if k = 31 then 4 else if k = 36 then 3 else if k = 39 then 3 else 2
def tl (k : Nat) : Nat := if k = 31 then 24 else if k = 34 then 320 else if k = 36 then 564 else if k = 39 then 480 else if k = 41 then 160 else if k = 44 then 80 else if (k - 46) % 7 = 1 then 80 else 40
def obT (ac : Nat → ClassId) (o : Nat → Nat) (k : Nat) (f : Nat → Int32) : va_E := .inr (4, [.int (tw k), .ref (o (k + 1)), .int (f 2)])
def obC (ac : Nat → ClassId) (k : Nat) (f : Nat → Int32) : va_E := .inl (ac 0, tl k, .inl f)
def obA (ac : Nat → ClassId) (n : Nat) (f : Nat → Int32) : va_E := .inl (ac 0, n, .inl f)
def obE (ac : Nat → ClassId) (o : Nat → Nat) (k : Nat) (f : Nat → Int32) (g : Nat → Int64) : va_E := .inr (0, [.int (f 0), .int (f 1), .long (g 2), .ref (o (k + 1)), .ref (o (k + 3)), .ref (o (k + 5))])
def obX (ac : Nat → ClassId) (o : Nat → Nat) (hn : Nat) : va_E := .inr (6, [.ref (o 29), .int (nI hn), .ref (o 30), .ref (o 33), .ref (o 38), .ref (o 43)])
def obS (ac : Nat → ClassId) (o : Nat → Nat) (hn : Nat) : va_E := .inl (ac 3, 6, .inr (.inr (.inr (.inr (fun j => if j < hn then some (o (46 + 7 * j)) else none)))))
/-- the cell of the number k -/
def ob (ac : Nat → ClassId) (o : Nat → Nat) (hn : Nat) (k : Nat) (f : Nat → Int32) (g : Nat → Int64) : va_E :=
  if k = 26 then obA ac 21 f else if k = 27 then obA ac 21 f else
  if k = 28 then obX ac o hn else if k = 29 then obS ac o hn else
  if k = 30 then .inr (2, [.ref (o 31)]) else if k = 31 then obT ac o 31 f else if k = 32 then obC ac 31 f else
  if k = 33 then .inr (1, [.ref (o 38), .ref (o 34), .ref (o 36)]) else if k = 34 then obT ac o 34 f else if k = 35 then obC ac 34 f else
  if k = 36 then obT ac o 36 f else if k = 37 then obC ac 36 f else
  if k = 38 then .inr (5, [.ref (o 43), .ref (o 39), .ref (o 41), .int (f 3)]) else if k = 39 then obT ac o 39 f else if k = 40 then obC ac 39 f else
  if k = 41 then obT ac o 41 f else if k = 42 then obC ac 41 f else
  if k = 43 then .inr (3, [.ref (o 44), .int (f 1)]) else if k = 44 then obT ac o 44 f else if k = 45 then obC ac 44 f else
  if (k - 46) % 7 = 0 then obE ac o k f g else
  if (k - 46) % 7 = 1 ∨ (k - 46) % 7 = 3 ∨ (k - 46) % 7 = 5 then obT ac o k f else obC ac (k - 1) f
/-- the number t is a table's -/
def isT (t : Nat) : Prop := t = 31 ∨ t = 34 ∨ t = 36 ∨ t = 39 ∨ t = 41 ∨ t = 44 ∨ (46 < t ∧ ((t - 46) % 7 = 1 ∨ (t - 46) % 7 = 3 ∨ (t - 46) % 7 = 5))
def tb (hn t : Nat) : Prop := isT t ∧ t + 1 < 46 + 7 * hn
/-- the number id is a cell's: the class's (28 and on), or one of the law's two arrays (26, 27), once it has made them (o 0 = 1) -/
def IDL (o : Nat → Nat) (hn id : Nat) : Prop := (28 ≤ id ∧ id < 46 + 7 * hn) ∨ ((id = 26 ∨ id = 27) ∧ o 0 = 1)
def pl (hn id : Nat) : Nat := if id < 28 then 18 + 7 * hn + (id - 26) else id - 28
def em (hn e : Nat) : Prop := 46 ≤ e ∧ (e - 46) % 7 = 0 ∧ e < 46 + 7 * hn
theorem tb_31 (hn : Nat) : tb hn 31 := ⟨Or.inl rfl, by omega⟩
theorem tb_34 (hn : Nat) : tb hn 34 := ⟨Or.inr (Or.inl rfl), by omega⟩
theorem tb_36 (hn : Nat) : tb hn 36 := ⟨Or.inr (Or.inr (Or.inl rfl)), by omega⟩
theorem tb_39 (hn : Nat) : tb hn 39 := ⟨Or.inr (Or.inr (Or.inr (Or.inl rfl))), by omega⟩
theorem tb_41 (hn : Nat) : tb hn 41 := ⟨Or.inr (Or.inr (Or.inr (Or.inr (Or.inl rfl)))), by omega⟩
theorem tb_44 (hn : Nat) : tb hn 44 := ⟨Or.inr (Or.inr (Or.inr (Or.inr (Or.inr (Or.inl rfl))))), by omega⟩
theorem tb_e1 {hn e : Nat} (h : em hn e) : tb hn (e + 1) := by
  obtain ⟨h1, h2, h3⟩ := h
  refine ⟨Or.inr (Or.inr (Or.inr (Or.inr (Or.inr (Or.inr ⟨by omega, Or.inl (by omega)⟩))))), by omega⟩
theorem tb_e3 {hn e : Nat} (h : em hn e) : tb hn (e + 3) := by
  obtain ⟨h1, h2, h3⟩ := h
  refine ⟨Or.inr (Or.inr (Or.inr (Or.inr (Or.inr (Or.inr ⟨by omega, Or.inr (Or.inl (by omega))⟩))))), by omega⟩
theorem tb_e5 {hn e : Nat} (h : em hn e) : tb hn (e + 5) := by
  obtain ⟨h1, h2, h3⟩ := h
  refine ⟨Or.inr (Or.inr (Or.inr (Or.inr (Or.inr (Or.inr ⟨by omega, Or.inr (Or.inr (by omega))⟩))))), by omega⟩
theorem em_i {hn i : Nat} (h : i < hn) : em hn (46 + 7 * i) := ⟨by omega, by omega, by omega⟩
theorem ob_big {ac : Nat → ClassId} {o : Nat → Nat} {hn k : Nat} (f : Nat → Int32) (g : Nat → Int64) (h : 46 ≤ k) : ob ac o hn k f g = if (k - 46) % 7 = 0 then obE ac o k f g else if (k - 46) % 7 = 1 ∨ (k - 46) % 7 = 3 ∨ (k - 46) % 7 = 5 then obT ac o k f else obC ac (k - 1) f := by
  have n : ∀ j, j < 46 → ¬ k = j := fun j hj => by omega
  simp only [ob, n 26 (by omega), n 27 (by omega), n 28 (by omega), n 29 (by omega), n 30 (by omega), n 31 (by omega), n 32 (by omega), n 33 (by omega), n 34 (by omega), n 35 (by omega), n 36 (by omega), n 37 (by omega), n 38 (by omega), n 39 (by omega), n 40 (by omega), n 41 (by omega), n 42 (by omega), n 43 (by omega), n 44 (by omega), n 45 (by omega), if_false]
theorem ob_T {ac : Nat → ClassId} {o : Nat → Nat} {hn t : Nat} (h : isT t) (f : Nat → Int32) (g : Nat → Int64) : ob ac o hn t f g = .inr (4, [.int (tw t), .ref (o (t + 1)), .int (f 2)]) := by
  rcases h with rfl | rfl | rfl | rfl | rfl | rfl | ⟨h1, h2⟩
  · rfl
  · rfl
  · rfl
  · rfl
  · rfl
  · rfl
  · rw [ob_big f g (by omega), if_neg (by omega), if_pos h2]; rfl
theorem ob_C {ac : Nat → ClassId} {o : Nat → Nat} {hn t : Nat} (h : isT t) (f : Nat → Int32) (g : Nat → Int64) : ob ac o hn (t + 1) f g = .inl (ac 0, tl t, .inl f) := by
  rcases h with rfl | rfl | rfl | rfl | rfl | rfl | ⟨h1, h2⟩
  · rfl
  · rfl
  · rfl
  · rfl
  · rfl
  · rfl
  · rw [ob_big f g (by omega), if_neg (by omega), if_neg (by omega)]; rfl
theorem ob_E {ac : Nat → ClassId} {o : Nat → Nat} {hn e : Nat} (h : em hn e) (f : Nat → Int32) (g : Nat → Int64) : ob ac o hn e f g = .inr (0, [.int (f 0), .int (f 1), .long (g 2), .ref (o (e + 1)), .ref (o (e + 3)), .ref (o (e + 5))]) := by
  obtain ⟨h1, h2, h3⟩ := h
  rw [ob_big f g h1, if_pos h2]; rfl
/-- the world -/
def Wd (ac : Nat → ClassId) (o : Nat → Nat) (hn : Nat) (M : Mem) (G : Mel) : va_W := (List.range (18 + 7 * hn)).map (fun k => (o (k + 28), ob ac o hn (k + 28) (M (k + 28)) (G (k + 28)))) ++ (if o 0 = 1 then [(o 26, obA ac 21 (M 26)), (o 27, obA ac 21 (M 27))] else [])
theorem wd_at {ac : Nat → ClassId} {o : Nat → Nat} {hn : Nat} {M : Mem} {G : Mel} {k : Nat} {e : va_E} (h : IDL o hn k) (he : ob ac o hn k (M k) (G k) = e) : (Wd ac o hn M G)[pl hn k]? = some (o k, e) := by
  subst he
  rcases h with ⟨h1, h2⟩ | ⟨h1, h2⟩
  · obtain ⟨j, rfl⟩ : ∃ j, k = j + 28 := ⟨k - 28, by omega⟩
    have hj : j < 18 + 7 * hn := by omega
    have e : pl hn (j + 28) = j := by unfold pl; rw [if_neg (by omega)]; omega
    rw [e, Wd, List.getElem?_append_left (by rw [List.length_map, List.length_range]; exact hj), List.getElem?_map, List.getElem?_range hj]
    rfl
  · rcases h1 with rfl | rfl
    · have e : pl hn 26 = 18 + 7 * hn := by unfold pl; rw [if_pos (by omega)]; rfl
      rw [e, Wd, List.getElem?_append_right (by rw [List.length_map, List.length_range]; omega), List.length_map, List.length_range, if_pos h2, Nat.sub_self]
      rfl
    · have e : pl hn 27 = 18 + 7 * hn + 1 := by unfold pl; rw [if_pos (by omega)]
      rw [e, Wd, List.getElem?_append_right (by rw [List.length_map, List.length_range]; omega), List.length_map, List.length_range, if_pos h2, Nat.add_sub_cancel_left]
      rfl
theorem wd_len {ac : Nat → ClassId} {o : Nat → Nat} {hn : Nat} {M : Mem} {G : Mel} : (Wd ac o hn M G).length = 18 + 7 * hn + (if o 0 = 1 then 2 else 0) := by
  rw [Wd, List.length_append, List.length_map, List.length_range]
  split <;> rfl
theorem wd_set {ac : Nat → ClassId} {o : Nat → Nat} {hn : Nat} {M M' : Mem} {G G' : Mel} {k : Nat} {e : va_E} (hk : IDL o hn k) (he : ob ac o hn k (M' k) (G' k) = e) (hM : ∀ q, q ≠ k → M' q = M q) (hG : ∀ q, q ≠ k → G' q = G q) : (Wd ac o hn M G).set (pl hn k) (o k, e) = Wd ac o hn M' G' := by
  have hlt : pl hn k < 18 + 7 * hn + (if o 0 = 1 then 2 else 0) := by
    unfold pl
    rcases hk with ⟨h1, h2⟩ | ⟨h1, h2⟩
    · rw [if_neg (by omega)]; omega
    · rw [if_pos (by omega), if_pos h2]; omega
  have hall : ∀ i, i < 18 + 7 * hn + (if o 0 = 1 then 2 else 0) → ∃ q, IDL o hn q ∧ pl hn q = i := by
    intro i hi
    by_cases c : i < 18 + 7 * hn
    · exact ⟨i + 28, Or.inl ⟨by omega, by omega⟩, by unfold pl; rw [if_neg (by omega)]; omega⟩
    · by_cases c2 : o 0 = 1
      · rw [if_pos c2] at hi
        exact ⟨26 + (i - (18 + 7 * hn)), Or.inr ⟨by omega, c2⟩, by unfold pl; rw [if_pos (by omega)]; omega⟩
      · rw [if_neg c2] at hi; omega
  have hinj : ∀ q, IDL o hn q → pl hn q = pl hn k → q = k := by
    intro q hq e
    unfold pl at e
    rcases hq with ⟨h1, h2⟩ | ⟨h1, h2⟩ <;> rcases hk with ⟨h3, h4⟩ | ⟨h3, h4⟩
    · rw [if_neg (by omega), if_neg (by omega)] at e; omega
    · rw [if_neg (by omega), if_pos (by omega)] at e; omega
    · rw [if_pos (by omega), if_neg (by omega)] at e; omega
    · rw [if_pos (by omega), if_pos (by omega)] at e; omega
  apply List.ext_getElem?
  intro i
  by_cases hik : pl hn k = i
  · subst hik
    rw [List.getElem?_set_self (by rw [wd_len]; exact hlt), wd_at hk he]
  · rw [List.getElem?_set_ne hik]
    by_cases hl : i < 18 + 7 * hn + (if o 0 = 1 then 2 else 0)
    · obtain ⟨q, h1, rfl⟩ := hall i hl
      have hqk : q ≠ k := fun e => hik (by rw [e])
      rw [wd_at h1 rfl, wd_at h1 rfl, hM q hqk, hG q hqk]
    · rw [List.getElem?_eq_none (by rw [wd_len]; omega), List.getElem?_eq_none (by rw [wd_len]; omega)]
abbrev Lx : Type := Launch × (Nat → ClassId) × (Nat → Nat → Nat) × (Nat → ClassId)
abbrev Cx : Type := Lx × Program × Env × Room × State × MethodId × Array Value × List Frame × Method × Code × (State → Prop) × (Nat → Prop)
abbrev tysL (ac : Nat → ClassId) : List (ClassId × FieldType) := [(ac 0, .int), (ac 3, .object "Timesheets$Employee")]
/-- the cells of the world lie in H, apart; nothing else has changed since H0 -/
def HW (dC : Nat → ClassId) (dI : Nat → Nat → Nat) (A : Nat → Prop) (w : va_W) (H0 H : Heap) (locs : List Loc) : Prop := va_P (dC, dI) vwCl w H ∧ va_D A w ∧ va_S A H0 H locs
/-- from the frame at pc, with locals lo and operands st, over the memory M, G: the rest of the run -/
def WM (X : Cx) (o : Nat → Nat) (hn : Nat) (M : Mem) (G : Mel) (k n pc nL : Nat) (lo : List (Nat × Value)) (st : List Value) : Prop :=
  match X with
  | ((l, dC, dI, ac), p, e, R, s, m, args, below, meth, c, Q, A) => ∀ (H : Heap) (locs : List Loc) (ls : Array Slot), HW dC dI A (Wd ac o hn M G) s.heap H locs → lv_has ls nL lo → W p l e R s m args below meth c H locs k n Q (F0 m pc ls st)
/-- what the tables and the heap say beside the good words -/
def xtra : Cond → Bool
  | .declares _ => true
  | .castable .. => true
  | .fieldLinkNest .. => true
  | .methodLinkNest .. => true
  | _ => false
abbrev eIAE : String := "java/lang/IllegalArgumentException"
abbrev eISE : String := "java/lang/IllegalStateException"
abbrev eIOB : String := "java/lang/IndexOutOfBoundsException"
abbrev eNSE : String := "java/util/NoSuchElementException"
def MF (A : Nat → Prop) (U : State) (H : Heap) : Prop := (∀ w ∈ lw_tbl, xtra w = true → w.before #[] U = true) ∧ va_AO "Timesheets$Employee" U
theorem xtra_warm {w : Cond} (hx : xtra w = true) {s U : State} (hW : s.WarmedH U.vm) (h : w.before #[] s = true) : w.before #[] U = true := by
  have hvm := hW.alike
  have tr : ∀ {c : Cond}, c.onTables = true → c.before #[] (s.setVm U.vm) = true → c.before #[] U = true := by
    intro c hc h
    have e := Cond.onTables_vm (A := #[]) (A' := #[]) (U := s) (U' := U) U.vm c hc
    have hU : U.setVm U.vm = U := rfl
    rw [hU] at e
    rw [← e]
    exact h
  cases w with
  | declares x => exact tr rfl (by rw [Cond.declares_setVm hvm]; exact h)
  | castable a b => exact tr rfl (by rw [Cond.castable_setVm hvm]; exact h)
  | fieldLinkNest a i b n d k => exact va_Nw.warmF hW h
  | methodLinkNest a i x k => exact va_Nw.warmM hW h
  | _ => simp [xtra] at hx
theorem xtra_same {w : Cond} (hx : xtra w = true) {s U : State} (hv : s.vm = U.vm) (h : w.before #[] s = true) : w.before #[] U = true := by
  cases w with
  | declares x => exact va_tabs rfl hv h
  | castable a b => exact va_tabs rfl hv h
  | fieldLinkNest a i b n d k => exact va_tabs rfl hv h
  | methodLinkNest a i x k => exact va_tabs rfl hv h
  | _ => simp [xtra] at hx
theorem xtra_use {w : Cond} (hx : xtra w = true) {s : State} {args : Array Value} (h : w.before #[] s = true) : w.before args s = true := by
  cases w with
  | declares x => exact va_tabs rfl rfl h
  | castable a b => exact va_tabs rfl rfl h
  | fieldLinkNest a i b n d k => exact va_tabs rfl rfl h
  | methodLinkNest a i x k => exact va_tabs rfl rfl h
  | _ => simp [xtra] at hx
theorem MF.warm {A B : Nat → Prop} {s U : State} {H H1 : Heap} (h : MF A s H) (hW : s.WarmedH U.vm) (hAB : ∀ q, B q → A q) (hq : ∀ q : Nat, q < H.size → ¬ A q → H1[q]? = H[q]?) : MF B U H1 := ⟨fun w hw hx => xtra_warm hx hW (h.1 w hw hx), h.2.moved hW.alike⟩
theorem MF.same {A : Nat → Prop} {s U : State} {H : Heap} (h : MF A s H) (hv : s.vm = U.vm) : MF A U H := ⟨fun w hw hx => xtra_same hx hv (h.1 w hw hx), h.2.moved (by rw [hv]; exact Vm.Alike.refl U.vm)⟩
/-- what is fixed in a method's body -/
def CxOK (X : Cx) (own : String) (cc : ByteArray) (nL fr lc mc ms : Nat) (rt : Option FieldType) : Prop :=
  match X with
  | ((l, dC, dI, ac), p, _, R, s, m, args, _, meth, c, _, A) => R = { frames := fr, cells := mc, slots := ms, locals := lc } ∧ p.tables.exec = Jvm.exec ∧ c.code = cc ∧ c.maxLocals = nL ∧ s.vm.findClass own = some m.cls ∧ (∀ w ∈ BG, w.before args s = true) ∧ va_K (dC, dI) vwCl (tysL ac) s ∧ (∀ q : Nat, s.heap.size ≤ q → A q) ∧ MF A s s.heap ∧ meth.sig.returnType = rt ∧ meth.locks = false ∧ l.stackTraces = false
section Rows
variable {X : Cx} {own : String} {cc : ByteArray} {nL fr lc mc ms : Nat} {rt : Option FieldType} {o : Nat → Nat} {hn : Nat} {M : Mem} {G : Mel} {a b pc : Nat} {lo : List (Nat × Value)} {st : List Value}
theorem q_iconst (hX : CxOK X own cc nL fr lc mc ms rt) {n : Int} (v : Int32) (hv : Int32.ofInt n = v) (d : decode cc pc = .ok (.iconst n, 1)) (k : WM X o hn M G a b (pc + 1) nL lo (.int v :: st)) : WM X o hn M G a b pc nL lo st := by
  obtain ⟨⟨l, dC, dI, ac⟩, p, e, R, s, m, args, below, meth, c, Q, A⟩ := X
  obtain ⟨hR, hx, hb, hml, hown, hts, hK, hA, hMF, hrt, hlk, htr⟩ := hX
  intro H locs ls hw hl
  exact lv_iconst hx hb d hv (k H locs ls hw hl)
theorem q_bipush (hX : CxOK X own cc nL fr lc mc ms rt) {n : Int} (v : Int32) (hv : (Int8.ofInt n).toInt32 = v) (d : decode cc pc = .ok (.bipush n, 2)) (k : WM X o hn M G a b (pc + 2) nL lo (.int v :: st)) : WM X o hn M G a b pc nL lo st := by
  obtain ⟨⟨l, dC, dI, ac⟩, p, e, R, s, m, args, below, meth, c, Q, A⟩ := X
  obtain ⟨hR, hx, hb, hml, hown, hts, hK, hA, hMF, hrt, hlk, htr⟩ := hX
  intro H locs ls hw hl
  exact lv_bipush hx hb d hv (k H locs ls hw hl)
theorem q_sipush (hX : CxOK X own cc nL fr lc mc ms rt) {n : Int} (v : Int32) (hv : (Int16.ofInt n).toInt32 = v) (d : decode cc pc = .ok (.sipush n, 3)) (k : WM X o hn M G a b (pc + 3) nL lo (.int v :: st)) : WM X o hn M G a b pc nL lo st := by
  obtain ⟨⟨l, dC, dI, ac⟩, p, e, R, s, m, args, below, meth, c, Q, A⟩ := X
  obtain ⟨hR, hx, hb, hml, hown, hts, hK, hA, hMF, hrt, hlk, htr⟩ := hX
  intro H locs ls hw hl
  exact lv_sipush hx hb d hv (k H locs ls hw hl)
theorem q_ldc (hX : CxOK X own cc nL fr lc mc ms rt) {i : Nat} {v : Int32} (hc : Cond.constant own i v ∈ BG) (d : decode cc pc = .ok (.ldc i, 2)) (k : WM X o hn M G a b (pc + 2) nL lo (.int v :: st)) : WM X o hn M G a b pc nL lo st := by
  obtain ⟨⟨l, dC, dI, ac⟩, p, e, R, s, m, args, below, meth, c, Q, A⟩ := X
  obtain ⟨hR, hx, hb, hml, hown, hts, hK, hA, hMF, hrt, hlk, htr⟩ := hX
  intro H locs ls hw hl
  exact lv_ldc hx hb hown (hts _ hc) d (k H locs ls hw hl)
theorem q_iload_n (hX : CxOK X own cc nL fr lc mc ms rt) {q : Fin 4} {i : Nat} {x : Int32} (j : Nat) (hi : (q : Nat) = i) (hj : lo[j]? = some (i, .int x)) (d : decode cc pc = .ok (.iload_n q, 1)) (k : WM X o hn M G a b (pc + 1) nL lo (.int x :: st)) : WM X o hn M G a b pc nL lo st := by
  obtain ⟨⟨l, dC, dI, ac⟩, p, e, R, s, m, args, below, meth, c, Q, A⟩ := X
  obtain ⟨hR, hx, hb, hml, hown, hts, hK, hA, hMF, hrt, hlk, htr⟩ := hX
  intro H locs ls hw hl
  exact lv_iload_n hx hb d hi (lv_at hl j hj) (k H locs ls hw hl)
theorem q_iload (hX : CxOK X own cc nL fr lc mc ms rt) {i : Nat} {x : Int32} (j : Nat) (hj : lo[j]? = some (i, .int x)) (d : decode cc pc = .ok (.iload i, 2)) (k : WM X o hn M G a b (pc + 2) nL lo (.int x :: st)) : WM X o hn M G a b pc nL lo st := by
  obtain ⟨⟨l, dC, dI, ac⟩, p, e, R, s, m, args, below, meth, c, Q, A⟩ := X
  obtain ⟨hR, hx, hb, hml, hown, hts, hK, hA, hMF, hrt, hlk, htr⟩ := hX
  intro H locs ls hw hl
  exact lv_iload hx hb d (lv_at hl j hj) (k H locs ls hw hl)
theorem q_aload_n (hX : CxOK X own cc nL fr lc mc ms rt) {q : Fin 4} {i x : Nat} (j : Nat) (hi : (q : Nat) = i) (hj : lo[j]? = some (i, .ref x)) (d : decode cc pc = .ok (.aload_n q, 1)) (k : WM X o hn M G a b (pc + 1) nL lo (.ref x :: st)) : WM X o hn M G a b pc nL lo st := by
  obtain ⟨⟨l, dC, dI, ac⟩, p, e, R, s, m, args, below, meth, c, Q, A⟩ := X
  obtain ⟨hR, hx, hb, hml, hown, hts, hK, hA, hMF, hrt, hlk, htr⟩ := hX
  intro H locs ls hw hl
  exact lv_aload_n hx hb d hi (lv_at hl j hj) (k H locs ls hw hl)
theorem q_aload (hX : CxOK X own cc nL fr lc mc ms rt) {i x : Nat} (j : Nat) (hj : lo[j]? = some (i, .ref x)) (d : decode cc pc = .ok (.aload i, 2)) (k : WM X o hn M G a b (pc + 2) nL lo (.ref x :: st)) : WM X o hn M G a b pc nL lo st := by
  obtain ⟨⟨l, dC, dI, ac⟩, p, e, R, s, m, args, below, meth, c, Q, A⟩ := X
  obtain ⟨hR, hx, hb, hml, hown, hts, hK, hA, hMF, hrt, hlk, htr⟩ := hX
  intro H locs ls hw hl
  exact lv_aload hx hb d (lv_at hl j hj) (k H locs ls hw hl)
theorem q_istore_n (hX : CxOK X own cc nL fr lc mc ms rt) {q : Fin 4} {i : Nat} {x : Int32} {lo' : List (Nat × Value)} (ks : List Nat) (hi : (q : Nat) = i) (hn' : i < nL) (hl' : lv_pick ((i, Value.int x) :: lo.filter (fun q => !(q.1 == i) && !(q.1 + 1 == i && q.2.category == 2))) ks = lo') (d : decode cc pc = .ok (.istore_n q, 1)) (k : WM X o hn M G a b (pc + 1) nL lo' st) : WM X o hn M G a b pc nL lo (.int x :: st) := by
  obtain ⟨⟨l, dC, dI, ac⟩, p, e, R, s, m, args, below, meth, c, Q, A⟩ := X
  obtain ⟨hR, hx, hb, hml, hown, hts, hK, hA, hMF, hrt, hlk, htr⟩ := hX
  intro H locs ls hw hl
  exact lv_istore_n hx hb d hi hl hn' rfl (fun ls2 hl2 => k H locs ls2 hw (lv_sub hl2 ks hl'))
theorem q_istore (hX : CxOK X own cc nL fr lc mc ms rt) {i : Nat} {x : Int32} {lo' : List (Nat × Value)} (ks : List Nat) (hn' : i < nL) (hl' : lv_pick ((i, Value.int x) :: lo.filter (fun q => !(q.1 == i) && !(q.1 + 1 == i && q.2.category == 2))) ks = lo') (d : decode cc pc = .ok (.istore i, 2)) (k : WM X o hn M G a b (pc + 2) nL lo' st) : WM X o hn M G a b pc nL lo (.int x :: st) := by
  obtain ⟨⟨l, dC, dI, ac⟩, p, e, R, s, m, args, below, meth, c, Q, A⟩ := X
  obtain ⟨hR, hx, hb, hml, hown, hts, hK, hA, hMF, hrt, hlk, htr⟩ := hX
  intro H locs ls hw hl
  exact lv_istore hx hb d hl hn' rfl (fun ls2 hl2 => k H locs ls2 hw (lv_sub hl2 ks hl'))
theorem q_astore_n (hX : CxOK X own cc nL fr lc mc ms rt) {q : Fin 4} {i x : Nat} {lo' : List (Nat × Value)} (ks : List Nat) (hi : (q : Nat) = i) (hn' : i < nL) (hl' : lv_pick ((i, Value.ref x) :: lo.filter (fun q => !(q.1 == i) && !(q.1 + 1 == i && q.2.category == 2))) ks = lo') (d : decode cc pc = .ok (.astore_n q, 1)) (k : WM X o hn M G a b (pc + 1) nL lo' st) : WM X o hn M G a b pc nL lo (.ref x :: st) := by
  obtain ⟨⟨l, dC, dI, ac⟩, p, e, R, s, m, args, below, meth, c, Q, A⟩ := X
  obtain ⟨hR, hx, hb, hml, hown, hts, hK, hA, hMF, hrt, hlk, htr⟩ := hX
  intro H locs ls hw hl
  exact lv_astore_n hx hb d hi hl hn' rfl (fun ls2 hl2 => k H locs ls2 hw (lv_sub hl2 ks hl'))
theorem q_iinc (hX : CxOK X own cc nL fr lc mc ms rt) {i : Nat} {n : Int} {x : Int32} {lo' : List (Nat × Value)} (j : Nat) (v : Int32) (ks : List Nat) (hj : lo[j]? = some (i, .int x)) (hv : x + Int32.ofInt n = v) (hn' : i < nL) (hl' : lv_pick ((i, Value.int v) :: lo.filter (fun q => !(q.1 == i) && !(q.1 + 1 == i && q.2.category == 2))) ks = lo') (d : decode cc pc = .ok (.iinc i n, 3)) (k : WM X o hn M G a b (pc + 3) nL lo' st) : WM X o hn M G a b pc nL lo st := by
  obtain ⟨⟨l, dC, dI, ac⟩, p, e, R, s, m, args, below, meth, c, Q, A⟩ := X
  obtain ⟨hR, hx, hb, hml, hown, hts, hK, hA, hMF, hrt, hlk, htr⟩ := hX
  intro H locs ls hw hl
  exact lv_iinc hx hb d hl hj hv hn' rfl (fun ls2 hl2 => k H locs ls2 hw (lv_sub hl2 ks hl'))
theorem q_iadd (hX : CxOK X own cc nL fr lc mc ms rt) {x y : Int32} (d : decode cc pc = .ok (.iadd, 1)) (k : WM X o hn M G a b (pc + 1) nL lo (.int (x + y) :: st)) : WM X o hn M G a b pc nL lo (.int y :: .int x :: st) := by
  obtain ⟨⟨l, dC, dI, ac⟩, p, e, R, s, m, args, below, meth, c, Q, A⟩ := X
  obtain ⟨hR, hx, hb, hml, hown, hts, hK, hA, hMF, hrt, hlk, htr⟩ := hX
  intro H locs ls hw hl
  exact lv_iadd hx hb d (k H locs ls hw hl)
theorem q_isub (hX : CxOK X own cc nL fr lc mc ms rt) {x y : Int32} (d : decode cc pc = .ok (.isub, 1)) (k : WM X o hn M G a b (pc + 1) nL lo (.int (x - y) :: st)) : WM X o hn M G a b pc nL lo (.int y :: .int x :: st) := by
  obtain ⟨⟨l, dC, dI, ac⟩, p, e, R, s, m, args, below, meth, c, Q, A⟩ := X
  obtain ⟨hR, hx, hb, hml, hown, hts, hK, hA, hMF, hrt, hlk, htr⟩ := hX
  intro H locs ls hw hl
  exact lv_isub hx hb d (k H locs ls hw hl)
theorem q_imul (hX : CxOK X own cc nL fr lc mc ms rt) {x y : Int32} (d : decode cc pc = .ok (.imul, 1)) (k : WM X o hn M G a b (pc + 1) nL lo (.int (x * y) :: st)) : WM X o hn M G a b pc nL lo (.int y :: .int x :: st) := by
  obtain ⟨⟨l, dC, dI, ac⟩, p, e, R, s, m, args, below, meth, c, Q, A⟩ := X
  obtain ⟨hR, hx, hb, hml, hown, hts, hK, hA, hMF, hrt, hlk, htr⟩ := hX
  intro H locs ls hw hl
  exact lv_imul hx hb d (k H locs ls hw hl)
theorem q_iand (hX : CxOK X own cc nL fr lc mc ms rt) {x y : Int32} (d : decode cc pc = .ok (.iand, 1)) (k : WM X o hn M G a b (pc + 1) nL lo (.int (x &&& y) :: st)) : WM X o hn M G a b pc nL lo (.int y :: .int x :: st) := by
  obtain ⟨⟨l, dC, dI, ac⟩, p, e, R, s, m, args, below, meth, c, Q, A⟩ := X
  obtain ⟨hR, hx, hb, hml, hown, hts, hK, hA, hMF, hrt, hlk, htr⟩ := hX
  intro H locs ls hw hl
  exact lv_iand hx hb d (k H locs ls hw hl)
theorem q_ishr (hX : CxOK X own cc nL fr lc mc ms rt) {x y : Int32} (d : decode cc pc = .ok (.ishr, 1)) (k : WM X o hn M G a b (pc + 1) nL lo (.int (x >>> (y &&& 31)) :: st)) : WM X o hn M G a b pc nL lo (.int y :: .int x :: st) := by
  obtain ⟨⟨l, dC, dI, ac⟩, p, e, R, s, m, args, below, meth, c, Q, A⟩ := X
  obtain ⟨hR, hx, hb, hml, hown, hts, hK, hA, hMF, hrt, hlk, htr⟩ := hX
  intro H locs ls hw hl
  exact lv_ishr hx hb d (k H locs ls hw hl)
theorem q_idiv (hX : CxOK X own cc nL fr lc mc ms rt) {x y : Int32} (h0 : ¬ y = 0) (d : decode cc pc = .ok (.idiv, 1)) (k : WM X o hn M G a b (pc + 1) nL lo (.int (x / y) :: st)) : WM X o hn M G a b pc nL lo (.int y :: .int x :: st) := by
  obtain ⟨⟨l, dC, dI, ac⟩, p, e, R, s, m, args, below, meth, c, Q, A⟩ := X
  obtain ⟨hR, hx, hb, hml, hown, hts, hK, hA, hMF, hrt, hlk, htr⟩ := hX
  intro H locs ls hw hl
  exact lv_idiv hx hb d h0 (k H locs ls hw hl)
theorem q_irem (hX : CxOK X own cc nL fr lc mc ms rt) {x y : Int32} (h0 : ¬ y = 0) (d : decode cc pc = .ok (.irem, 1)) (k : WM X o hn M G a b (pc + 1) nL lo (.int (x - x / y * y) :: st)) : WM X o hn M G a b pc nL lo (.int y :: .int x :: st) := by
  obtain ⟨⟨l, dC, dI, ac⟩, p, e, R, s, m, args, below, meth, c, Q, A⟩ := X
  obtain ⟨hR, hx, hb, hml, hown, hts, hK, hA, hMF, hrt, hlk, htr⟩ := hX
  intro H locs ls hw hl
  exact lv_irem hx hb d h0 (k H locs ls hw hl)
theorem q_ineg (hX : CxOK X own cc nL fr lc mc ms rt) {x : Int32} (d : decode cc pc = .ok (.ineg, 1)) (k : WM X o hn M G a b (pc + 1) nL lo (.int (-x) :: st)) : WM X o hn M G a b pc nL lo (.int x :: st) := by
  obtain ⟨⟨l, dC, dI, ac⟩, p, e, R, s, m, args, below, meth, c, Q, A⟩ := X
  obtain ⟨hR, hx, hb, hml, hown, hts, hK, hA, hMF, hrt, hlk, htr⟩ := hX
  intro H locs ls hw hl
  exact lv_ineg hx hb d (k H locs ls hw hl)
theorem q_i2l (hX : CxOK X own cc nL fr lc mc ms rt) {x : Int32} (d : decode cc pc = .ok (.i2l, 1)) (k : WM X o hn M G a b (pc + 1) nL lo (.long x.toInt64 :: st)) : WM X o hn M G a b pc nL lo (.int x :: st) := by
  obtain ⟨⟨l, dC, dI, ac⟩, p, e, R, s, m, args, below, meth, c, Q, A⟩ := X
  obtain ⟨hR, hx, hb, hml, hown, hts, hK, hA, hMF, hrt, hlk, htr⟩ := hX
  intro H locs ls hw hl
  exact lv_i2l hx hb d rfl (k H locs ls hw hl)
theorem q_ladd (hX : CxOK X own cc nL fr lc mc ms rt) {x y : Int64} (d : decode cc pc = .ok (.ladd, 1)) (k : WM X o hn M G a b (pc + 1) nL lo (.long (x + y) :: st)) : WM X o hn M G a b pc nL lo (.long y :: .long x :: st) := by
  obtain ⟨⟨l, dC, dI, ac⟩, p, e, R, s, m, args, below, meth, c, Q, A⟩ := X
  obtain ⟨hR, hx, hb, hml, hown, hts, hK, hA, hMF, hrt, hlk, htr⟩ := hX
  intro H locs ls hw hl
  exact lv_ladd hx hb d (k H locs ls hw hl)
theorem q_lconst (hX : CxOK X own cc nL fr lc mc ms rt) {n : Fin 2} (v : Int64) (hv : Int64.ofNat (n : Nat) = v) (d : decode cc pc = .ok (.lconst n, 1)) (k : WM X o hn M G a b (pc + 1) nL lo (.long v :: st)) : WM X o hn M G a b pc nL lo st := by
  obtain ⟨⟨l, dC, dI, ac⟩, p, e, R, s, m, args, below, meth, c, Q, A⟩ := X
  obtain ⟨hR, hx, hb, hml, hown, hts, hK, hA, hMF, hrt, hlk, htr⟩ := hX
  intro H locs ls hw hl
  exact lv_lconst hx hb d hv (k H locs ls hw hl)
theorem q_dup (hX : CxOK X own cc nL fr lc mc ms rt) {v : Value} (hv : v.category = 1) (d : decode cc pc = .ok (.dup, 1)) (k : WM X o hn M G a b (pc + 1) nL lo (v :: v :: st)) : WM X o hn M G a b pc nL lo (v :: st) := by
  obtain ⟨⟨l, dC, dI, ac⟩, p, e, R, s, m, args, below, meth, c, Q, A⟩ := X
  obtain ⟨hR, hx, hb, hml, hown, hts, hK, hA, hMF, hrt, hlk, htr⟩ := hX
  intro H locs ls hw hl
  exact lv_dup hx hb d hv (k H locs ls hw hl)
theorem q_dup2 (hX : CxOK X own cc nL fr lc mc ms rt) {v w : Value} (hv : v.category = 1) (hw' : w.category = 1) (d : decode cc pc = .ok (.dup2, 1)) (k : WM X o hn M G a b (pc + 1) nL lo (v :: w :: v :: w :: st)) : WM X o hn M G a b pc nL lo (v :: w :: st) := by
  obtain ⟨⟨l, dC, dI, ac⟩, p, e, R, s, m, args, below, meth, c, Q, A⟩ := X
  obtain ⟨hR, hx, hb, hml, hown, hts, hK, hA, hMF, hrt, hlk, htr⟩ := hX
  intro H locs ls hw hl
  exact lv_dup2_11 hx hb d hv hw' (k H locs ls hw hl)
theorem q_dup_x1 (hX : CxOK X own cc nL fr lc mc ms rt) {v w : Value} (hv : v.category = 1) (hw' : w.category = 1) (d : decode cc pc = .ok (.dup_x1, 1)) (k : WM X o hn M G a b (pc + 1) nL lo (v :: w :: v :: st)) : WM X o hn M G a b pc nL lo (v :: w :: st) := by
  obtain ⟨⟨l, dC, dI, ac⟩, p, e, R, s, m, args, below, meth, c, Q, A⟩ := X
  obtain ⟨hR, hx, hb, hml, hown, hts, hK, hA, hMF, hrt, hlk, htr⟩ := hX
  intro H locs ls hw hl
  exact lv_dup_x1 hx hb d hv hw' (k H locs ls hw hl)
theorem q_pop (hX : CxOK X own cc nL fr lc mc ms rt) {v : Value} (hv : v.category = 1) (d : decode cc pc = .ok (.pop, 1)) (k : WM X o hn M G a b (pc + 1) nL lo st) : WM X o hn M G a b pc nL lo (v :: st) := by
  obtain ⟨⟨l, dC, dI, ac⟩, p, e, R, s, m, args, below, meth, c, Q, A⟩ := X
  obtain ⟨hR, hx, hb, hml, hown, hts, hK, hA, hMF, hrt, hlk, htr⟩ := hX
  intro H locs ls hw hl
  exact lv_pop hx hb d hv (k H locs ls hw hl)
theorem q_goto (hX : CxOK X own cc nL fr lc mc ms rt) {off : Int} (tgt : Nat) (ht : (pc : Int) + off = (tgt : Int)) (d : decode cc pc = .ok (.goto off, 3)) (k : WM X o hn M G a b tgt nL lo st) : WM X o hn M G a b pc nL lo st := by
  obtain ⟨⟨l, dC, dI, ac⟩, p, e, R, s, m, args, below, meth, c, Q, A⟩ := X
  obtain ⟨hR, hx, hb, hml, hown, hts, hK, hA, hMF, hrt, hlk, htr⟩ := hX
  intro H locs ls hw hl
  exact lv_goto hx hb d ht (k H locs ls hw hl)
theorem q_ifnonnull (hX : CxOK X own cc nL fr lc mc ms rt) {x : Nat} {off : Int} (tgt : Nat) (ht : (pc : Int) + off = (tgt : Int)) (d : decode cc pc = .ok (.ifnonnull off, 3)) (k : WM X o hn M G a b tgt nL lo st) : WM X o hn M G a b pc nL lo (.ref x :: st) := by
  obtain ⟨⟨l, dC, dI, ac⟩, p, e, R, s, m, args, below, meth, c, Q, A⟩ := X
  obtain ⟨hR, hx, hb, hml, hown, hts, hK, hA, hMF, hrt, hlk, htr⟩ := hX
  intro H locs ls hw hl
  exact lv_ifnonnull hx hb d ht (k H locs ls hw hl)
theorem q_if_eq (hX : CxOK X own cc nL fr lc mc ms rt) {x : Int32} {off : Int} (tgt : Nat) (ht : (pc : Int) + off = (tgt : Int)) (d : decode cc pc = .ok (.ifCond .eq off, 3)) (kt : x = 0 → WM X o hn M G a b tgt nL lo st) (kf : ¬ x = 0 → WM X o hn M G a b (pc + 3) nL lo st) : WM X o hn M G a b pc nL lo (.int x :: st) := by
  obtain ⟨⟨l, dC, dI, ac⟩, p, e, R, s, m, args, below, meth, c, Q, A⟩ := X
  obtain ⟨hR, hx, hb, hml, hown, hts, hK, hA, hMF, hrt, hlk, htr⟩ := hX
  intro H locs ls hw hl
  exact lv_if_eq hx hb d ht (fun h => kt h H locs ls hw hl) (fun h => kf h H locs ls hw hl)
theorem q_if_ne (hX : CxOK X own cc nL fr lc mc ms rt) {x : Int32} {off : Int} (tgt : Nat) (ht : (pc : Int) + off = (tgt : Int)) (d : decode cc pc = .ok (.ifCond .ne off, 3)) (kt : ¬ x = 0 → WM X o hn M G a b tgt nL lo st) (kf : x = 0 → WM X o hn M G a b (pc + 3) nL lo st) : WM X o hn M G a b pc nL lo (.int x :: st) := by
  obtain ⟨⟨l, dC, dI, ac⟩, p, e, R, s, m, args, below, meth, c, Q, A⟩ := X
  obtain ⟨hR, hx, hb, hml, hown, hts, hK, hA, hMF, hrt, hlk, htr⟩ := hX
  intro H locs ls hw hl
  exact lv_if_ne hx hb d ht (fun h => kt h H locs ls hw hl) (fun h => kf h H locs ls hw hl)
theorem q_if_lt (hX : CxOK X own cc nL fr lc mc ms rt) {x : Int32} {off : Int} (tgt : Nat) (ht : (pc : Int) + off = (tgt : Int)) (d : decode cc pc = .ok (.ifCond .lt off, 3)) (kt : x < 0 → WM X o hn M G a b tgt nL lo st) (kf : ¬ x < 0 → WM X o hn M G a b (pc + 3) nL lo st) : WM X o hn M G a b pc nL lo (.int x :: st) := by
  obtain ⟨⟨l, dC, dI, ac⟩, p, e, R, s, m, args, below, meth, c, Q, A⟩ := X
  obtain ⟨hR, hx, hb, hml, hown, hts, hK, hA, hMF, hrt, hlk, htr⟩ := hX
  intro H locs ls hw hl
  exact lv_if_lt hx hb d ht (fun h => kt h H locs ls hw hl) (fun h => kf h H locs ls hw hl)
theorem q_if_ge (hX : CxOK X own cc nL fr lc mc ms rt) {x : Int32} {off : Int} (tgt : Nat) (ht : (pc : Int) + off = (tgt : Int)) (d : decode cc pc = .ok (.ifCond .ge off, 3)) (kt : 0 ≤ x → WM X o hn M G a b tgt nL lo st) (kf : ¬ 0 ≤ x → WM X o hn M G a b (pc + 3) nL lo st) : WM X o hn M G a b pc nL lo (.int x :: st) := by
  obtain ⟨⟨l, dC, dI, ac⟩, p, e, R, s, m, args, below, meth, c, Q, A⟩ := X
  obtain ⟨hR, hx, hb, hml, hown, hts, hK, hA, hMF, hrt, hlk, htr⟩ := hX
  intro H locs ls hw hl
  exact lv_if_ge hx hb d ht (fun h => kt h H locs ls hw hl) (fun h => kf h H locs ls hw hl)
theorem q_if_gt (hX : CxOK X own cc nL fr lc mc ms rt) {x : Int32} {off : Int} (tgt : Nat) (ht : (pc : Int) + off = (tgt : Int)) (d : decode cc pc = .ok (.ifCond .gt off, 3)) (kt : 0 < x → WM X o hn M G a b tgt nL lo st) (kf : ¬ 0 < x → WM X o hn M G a b (pc + 3) nL lo st) : WM X o hn M G a b pc nL lo (.int x :: st) := by
  obtain ⟨⟨l, dC, dI, ac⟩, p, e, R, s, m, args, below, meth, c, Q, A⟩ := X
  obtain ⟨hR, hx, hb, hml, hown, hts, hK, hA, hMF, hrt, hlk, htr⟩ := hX
  intro H locs ls hw hl
  exact lv_if_gt hx hb d ht (fun h => kt h H locs ls hw hl) (fun h => kf h H locs ls hw hl)
theorem q_if_le (hX : CxOK X own cc nL fr lc mc ms rt) {x : Int32} {off : Int} (tgt : Nat) (ht : (pc : Int) + off = (tgt : Int)) (d : decode cc pc = .ok (.ifCond .le off, 3)) (kt : x ≤ 0 → WM X o hn M G a b tgt nL lo st) (kf : ¬ x ≤ 0 → WM X o hn M G a b (pc + 3) nL lo st) : WM X o hn M G a b pc nL lo (.int x :: st) := by
  obtain ⟨⟨l, dC, dI, ac⟩, p, e, R, s, m, args, below, meth, c, Q, A⟩ := X
  obtain ⟨hR, hx, hb, hml, hown, hts, hK, hA, hMF, hrt, hlk, htr⟩ := hX
  intro H locs ls hw hl
  exact lv_if_le hx hb d ht (fun h => kt h H locs ls hw hl) (fun h => kf h H locs ls hw hl)
theorem q_icmp_eq (hX : CxOK X own cc nL fr lc mc ms rt) {x y : Int32} {off : Int} (tgt : Nat) (ht : (pc : Int) + off = (tgt : Int)) (d : decode cc pc = .ok (.if_icmp .eq off, 3)) (kt : x = y → WM X o hn M G a b tgt nL lo st) (kf : ¬ x = y → WM X o hn M G a b (pc + 3) nL lo st) : WM X o hn M G a b pc nL lo (.int y :: .int x :: st) := by
  obtain ⟨⟨l, dC, dI, ac⟩, p, e, R, s, m, args, below, meth, c, Q, A⟩ := X
  obtain ⟨hR, hx, hb, hml, hown, hts, hK, hA, hMF, hrt, hlk, htr⟩ := hX
  intro H locs ls hw hl
  exact lv_icmp_eq hx hb d ht (fun h => kt h H locs ls hw hl) (fun h => kf h H locs ls hw hl)
theorem q_icmp_ne (hX : CxOK X own cc nL fr lc mc ms rt) {x y : Int32} {off : Int} (tgt : Nat) (ht : (pc : Int) + off = (tgt : Int)) (d : decode cc pc = .ok (.if_icmp .ne off, 3)) (kt : ¬ x = y → WM X o hn M G a b tgt nL lo st) (kf : x = y → WM X o hn M G a b (pc + 3) nL lo st) : WM X o hn M G a b pc nL lo (.int y :: .int x :: st) := by
  obtain ⟨⟨l, dC, dI, ac⟩, p, e, R, s, m, args, below, meth, c, Q, A⟩ := X
  obtain ⟨hR, hx, hb, hml, hown, hts, hK, hA, hMF, hrt, hlk, htr⟩ := hX
  intro H locs ls hw hl
  exact lv_icmp_ne hx hb d ht (fun h => kt h H locs ls hw hl) (fun h => kf h H locs ls hw hl)
theorem q_icmp_lt (hX : CxOK X own cc nL fr lc mc ms rt) {x y : Int32} {off : Int} (tgt : Nat) (ht : (pc : Int) + off = (tgt : Int)) (d : decode cc pc = .ok (.if_icmp .lt off, 3)) (kt : x < y → WM X o hn M G a b tgt nL lo st) (kf : ¬ x < y → WM X o hn M G a b (pc + 3) nL lo st) : WM X o hn M G a b pc nL lo (.int y :: .int x :: st) := by
  obtain ⟨⟨l, dC, dI, ac⟩, p, e, R, s, m, args, below, meth, c, Q, A⟩ := X
  obtain ⟨hR, hx, hb, hml, hown, hts, hK, hA, hMF, hrt, hlk, htr⟩ := hX
  intro H locs ls hw hl
  exact lv_icmp_lt hx hb d ht (fun h => kt h H locs ls hw hl) (fun h => kf h H locs ls hw hl)
theorem q_icmp_ge (hX : CxOK X own cc nL fr lc mc ms rt) {x y : Int32} {off : Int} (tgt : Nat) (ht : (pc : Int) + off = (tgt : Int)) (d : decode cc pc = .ok (.if_icmp .ge off, 3)) (kt : y ≤ x → WM X o hn M G a b tgt nL lo st) (kf : ¬ y ≤ x → WM X o hn M G a b (pc + 3) nL lo st) : WM X o hn M G a b pc nL lo (.int y :: .int x :: st) := by
  obtain ⟨⟨l, dC, dI, ac⟩, p, e, R, s, m, args, below, meth, c, Q, A⟩ := X
  obtain ⟨hR, hx, hb, hml, hown, hts, hK, hA, hMF, hrt, hlk, htr⟩ := hX
  intro H locs ls hw hl
  exact lv_icmp_ge hx hb d ht (fun h => kt h H locs ls hw hl) (fun h => kf h H locs ls hw hl)
theorem q_icmp_gt (hX : CxOK X own cc nL fr lc mc ms rt) {x y : Int32} {off : Int} (tgt : Nat) (ht : (pc : Int) + off = (tgt : Int)) (d : decode cc pc = .ok (.if_icmp .gt off, 3)) (kt : y < x → WM X o hn M G a b tgt nL lo st) (kf : ¬ y < x → WM X o hn M G a b (pc + 3) nL lo st) : WM X o hn M G a b pc nL lo (.int y :: .int x :: st) := by
  obtain ⟨⟨l, dC, dI, ac⟩, p, e, R, s, m, args, below, meth, c, Q, A⟩ := X
  obtain ⟨hR, hx, hb, hml, hown, hts, hK, hA, hMF, hrt, hlk, htr⟩ := hX
  intro H locs ls hw hl
  exact lv_icmp_gt hx hb d ht (fun h => kt h H locs ls hw hl) (fun h => kf h H locs ls hw hl)
theorem q_icmp_le (hX : CxOK X own cc nL fr lc mc ms rt) {x y : Int32} {off : Int} (tgt : Nat) (ht : (pc : Int) + off = (tgt : Int)) (d : decode cc pc = .ok (.if_icmp .le off, 3)) (kt : x ≤ y → WM X o hn M G a b tgt nL lo st) (kf : ¬ x ≤ y → WM X o hn M G a b (pc + 3) nL lo st) : WM X o hn M G a b pc nL lo (.int y :: .int x :: st) := by
  obtain ⟨⟨l, dC, dI, ac⟩, p, e, R, s, m, args, below, meth, c, Q, A⟩ := X
  obtain ⟨hR, hx, hb, hml, hown, hts, hK, hA, hMF, hrt, hlk, htr⟩ := hX
  intro H locs ls hw hl
  exact lv_icmp_le hx hb d ht (fun h => kt h H locs ls hw hl) (fun h => kf h H locs ls hw hl)
/-- a field's link: its own class's, or a nest mate's -/
def FL (own : String) (idx : Nat) (ref n d : String) : Prop := Cond.fieldLink own idx ref n d ∈ BG ∨ ∃ host : String, Cond.fieldLinkNest own idx ref n d host ∈ lw_tbl
theorem q_get (hX : CxOK X own cc nL fr lc mc ms rt) {C : String} {T : u_T} {N ci index id : Nat} {fs : List Value} {v : Value} (j : Nat) (hk : IDL o hn id) (he : ob X.1.2.2.2 o hn id (M id) (G id) = .inr (ci, fs)) (hc : vwCl[ci]? = some (C, T, N)) (hin : ∀ w ∈ u_ws C T N, w ∈ BG) (hj : j < N) (hfl : FL own index (T j).1 (T j).2.1 (T j).2.2.1) (hv : fs[j]? = some v) (d : decode cc pc = .ok (.getfield index, 3)) (k : WM X o hn M G a b (pc + 3) nL lo (v :: st)) : WM X o hn M G a b pc nL lo (.ref (o id) :: st) := by
  obtain ⟨⟨l, dC, dI, ac⟩, p, e, R, s, m, args, below, meth, c, Q, A⟩ := X
  obtain ⟨hR, hx, hb, hml, hown, hts, hK, hA, hMF, hrt, hlk, htr⟩ := hX
  intro H locs ls hw hl
  rcases hfl with hfl | ⟨host, hfl⟩
  · exact va_get hx hb hts hin hown hK hw.1 (pl hn id) (wd_at hk he) hc j hj (hts _ hfl) (fun _ h9 => h9) hv d (k H locs ls hw hl)
  · exact va_getN hx hb hts hin hown hK hw.1 (pl hn id) (wd_at hk he) hc j hj (xtra_use rfl (hMF.1 _ hfl rfl)) (fun _ h9 => h9) hv d (k H locs ls hw hl)
theorem q_put (hX : CxOK X own cc nL fr lc mc ms rt) {C : String} {T : u_T} {N ci index id : Nat} {fs : List Value} {v : Value} {ty : FieldType} {ty0 : Nat → FieldType} {M' : Mem} {G' : Mel} (j : Nat) (hk : IDL o hn id) (he : ob X.1.2.2.2 o hn id (M id) (G id) = .inr (ci, fs)) (he' : ob X.1.2.2.2 o hn id (M' id) (G' id) = .inr (ci, fs.set j v)) (hM : ∀ q, q ≠ id → M' q = M q) (hG : ∀ q, q ≠ id → G' q = G q) (hc : vwCl[ci]? = some (C, T, N)) (hin : ∀ w ∈ u_ws C T N, w ∈ BG) (hty : ∀ k, k < N → parseFieldDescriptor (T k).2.2.1 = some (ty0 k)) (hnm : ∀ a, a < N → ∀ b, b < N → a ≠ b → (T a).2.1 ≠ (T b).2.1) (hj : j < N) (hfl : FL own index (T j).1 (T j).2.1 (T j).2.2.1) (hfin : (T j).2.2.2 = false) (hd : parseFieldDescriptor (T j).2.2.1 = some ty) (hna : narrow ty v = v) (hfit : fits ty v = true) (hlen : j < fs.length) (d : decode cc pc = .ok (.putfield index, 3)) (k : WM X o hn M' G' a b (pc + 3) nL lo st) : WM X o hn M G a b pc nL lo (v :: .ref (o id) :: st) := by
  obtain ⟨⟨l, dC, dI, ac⟩, p, e, R, s, m, args, below, meth, c, Q, A⟩ := X
  obtain ⟨hR, hx, hb, hml, hown, hts, hK, hA, hMF, hrt, hlk, htr⟩ := hX
  intro H locs ls hw hl
  rcases hfl with hfl | ⟨host, hfl⟩
  · refine va_put (ty := ty) hx hb hts hin ty0 hty hnm hown hK hw.1 hw.2.1 hw.2.2 (pl hn id) (wd_at hk he) hc j hj (hts _ hfl) (fun _ h9 => h9) hfin hd hna hfit hlen d (fun H1 locs1 hP hD hS => ?_)
    rw [wd_set hk he' hM hG] at hP hD
    exact k H1 locs1 ls ⟨hP, hD, hS⟩ hl
  · refine va_putN (ty := ty) hx hb hts hin ty0 hty hnm hown hK hw.1 hw.2.1 hw.2.2 (pl hn id) (wd_at hk he) hc j hj (xtra_use rfl (hMF.1 _ hfl rfl)) (fun _ h9 => h9) hfin hd hna hfit hlen d (fun H1 locs1 hP hD hS => ?_)
    rw [wd_set hk he' hM hG] at hP hD
    exact k H1 locs1 ls ⟨hP, hD, hS⟩ hl
theorem q_alen (hX : CxOK X own cc nL fr lc mc ms rt) {id t : Nat} {x : vp_A} {cA : ClassId} {ty : FieldType} (v : Int32) (hk : IDL o hn id) (he : ob X.1.2.2.2 o hn id (M id) (G id) = .inl (cA, x)) (ht : (tysL X.1.2.2.2)[t]? = some (cA, ty)) (hv : Int32.ofNat x.1 = v) (d : decode cc pc = .ok (.arraylength, 1)) (k : WM X o hn M G a b (pc + 1) nL lo (.int v :: st)) : WM X o hn M G a b pc nL lo (.ref (o id) :: st) := by
  obtain ⟨⟨l, dC, dI, ac⟩, p, e, R, s, m, args, below, meth, c, Q, A⟩ := X
  obtain ⟨hR, hx, hb, hml, hown, hts, hK, hA, hMF, hrt, hlk, htr⟩ := hX
  intro H locs ls hw hl
  exact va_alen hx hb hK hw.1 (pl hn id) t (wd_at hk he) ht hv d (k H locs ls hw hl)
theorem q_iald (hX : CxOK X own cc nL fr lc mc ms rt) {id n : Nat} {i : Int32} (hk : IDL o hn id) (he : ob X.1.2.2.2 o hn id (M id) (G id) = .inl (X.1.2.2.2 0, n, .inl (M id))) (hi : vp_in i n) (d : decode cc pc = .ok (.iaload, 1)) (k : WM X o hn M G a b (pc + 1) nL lo (.int (M id i.toNatClampNeg) :: st)) : WM X o hn M G a b pc nL lo (.int i :: .ref (o id) :: st) := by
  obtain ⟨⟨l, dC, dI, ac⟩, p, e, R, s, m, args, below, meth, c, Q, A⟩ := X
  obtain ⟨hR, hx, hb, hml, hown, hts, hK, hA, hMF, hrt, hlk, htr⟩ := hX
  intro H locs ls hw hl
  exact va_iald hx hb hK hw.1 (pl hn id) 0 (wd_at hk he) rfl hi d (k H locs ls hw hl)
theorem q_iast (hX : CxOK X own cc nL fr lc mc ms rt) {id n : Nat} {i x : Int32} (hk : IDL o hn id) (he : ∀ f g, ob X.1.2.2.2 o hn id f g = .inl (X.1.2.2.2 0, n, .inl f)) (hi : vp_in i n) (d : decode cc pc = .ok (.iastore, 1)) (k : WM X o hn (mst M id i.toNatClampNeg x) G a b (pc + 1) nL lo st) : WM X o hn M G a b pc nL lo (.int x :: .int i :: .ref (o id) :: st) := by
  obtain ⟨⟨l, dC, dI, ac⟩, p, e, R, s, m, args, below, meth, c, Q, A⟩ := X
  obtain ⟨hR, hx, hb, hml, hown, hts, hK, hA, hMF, hrt, hlk, htr⟩ := hX
  intro H locs ls hw hl
  refine va_iast hx hb hK hw.1 hw.2.1 hw.2.2 (pl hn id) 0 (wd_at hk (he _ _)) rfl hi d (fun H1 locs1 hP hD hS => ?_)
  rw [wd_set hk (M' := mst M id i.toNatClampNeg x) (G' := G) (by rw [mst_self]; exact he _ _) (fun q hq => mst_ne M _ x hq) (fun _ _ => rfl)] at hP hD
  exact k H1 locs1 ls ⟨hP, hD, hS⟩ hl
theorem q_aald (hX : CxOK X own cc nL fr lc mc ms rt) {i : Int32} (hi : vp_in i 6) (hlt : i.toNatClampNeg < hn) (d : decode cc pc = .ok (.aaload, 1)) (k : WM X o hn M G a b (pc + 1) nL lo (.ref (o (46 + 7 * i.toNatClampNeg)) :: st)) : WM X o hn M G a b pc nL lo (.int i :: .ref (o 29) :: st) := by
  obtain ⟨⟨l, dC, dI, ac⟩, p, e, R, s, m, args, below, meth, c, Q, A⟩ := X
  obtain ⟨hR, hx, hb, hml, hown, hts, hK, hA, hMF, hrt, hlk, htr⟩ := hX
  intro H locs ls hw hl
  refine va_aldq hx hb hK hw.1 (pl hn 29) 1 (wd_at (Or.inl ⟨by omega, by omega⟩) rfl) rfl hi d ?_
  rw [if_pos hlt]
  exact k H locs ls hw hl
end Rows

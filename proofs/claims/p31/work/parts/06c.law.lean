/-! rows of the law's own body -/
theorem lg_cmp_0 (x y : Int64) : lg_cmp x y = 0 ↔ x = y := by
  unfold lg_cmp
  constructor
  · intro h
    split at h
    · cases h
    · split at h
      · assumption
      · cases h
  · intro h
    subst h
    have h1 : ¬ x < x := by simp
    simp [h1]
def ScrOK (X : Cx) (b L : Nat) (xs : Nat → Int32) : Prop :=
  match X with
  | (_, _, _, _, s, _, _, _, _, _, _, A) => va_X b L xs s s.heap ∧ b < s.heap.size ∧ ¬ A b
section LawRows
variable {X : Cx} {own : String} {cc : ByteArray} {nL fr lc mc ms : Nat} {rt : Option FieldType} {o : Nat → Nat} {hn : Nat} {M : Mem} {G : Mel} {a b pc : Nat} {lo : List (Nat × Value)} {st : List Value}
theorem q_lcmp_eq (hX : CxOK X own cc nL fr lc mc ms rt) {x y : Int64} {off : Int} (tgt : Nat) (ht : ((pc + 1 : Nat) : Int) + off = (tgt : Int)) (d1 : decode cc pc = .ok (.lcmp, 1)) (d2 : decode cc (pc + 1) = .ok (.ifCond .eq off, 3)) (kt : x = y → WM X o hn M G a b tgt nL lo st) (kf : ¬ x = y → WM X o hn M G a b (pc + 1 + 3) nL lo st) : WM X o hn M G a b pc nL lo (.long y :: .long x :: st) := by
  have hif : WM X o hn M G a b (pc + 1) nL lo (.int (lg_cmp x y) :: st) := q_if_eq hX tgt ht d2 (fun h => kt ((lg_cmp_0 x y).mp h)) (fun h => kf (fun e => h ((lg_cmp_0 x y).mpr e)))
  obtain ⟨⟨l, dC, dI, ac⟩, p, e, R, s, m, args, below, meth, c, Q, A⟩ := X
  obtain ⟨hR, hx, hb, hml, hown, hts, hK, hA, hMF, hrt, hlk, htr⟩ := hX
  intro H locs ls hw hl
  exact W.lcmp hx hb d1 (hif H locs ls hw hl)
theorem q_lload (hX : CxOK X own cc nL fr lc mc ms rt) {i : Nat} {x : Int64} (j : Nat) (hj : lo[j]? = some (i, .long x)) (d : decode cc pc = .ok (.lload i, 2)) (k : WM X o hn M G a b (pc + 2) nL lo (.long x :: st)) : WM X o hn M G a b pc nL lo st := by
  obtain ⟨⟨l, dC, dI, ac⟩, p, e, R, s, m, args, below, meth, c, Q, A⟩ := X
  obtain ⟨hR, hx, hb, hml, hown, hts, hK, hA, hMF, hrt, hlk, htr⟩ := hX
  intro H locs ls hw hl
  exact lv_lload hx hb d (lv_at hl j hj) (k H locs ls hw hl)
theorem q_lstore (hX : CxOK X own cc nL fr lc mc ms rt) {i : Nat} {x : Int64} {lo' : List (Nat × Value)} (ks : List Nat) (hn' : i + 1 < nL) (hl' : lv_pick ((i, Value.long x) :: lo.filter (fun q => !(q.1 == i) && (!(q.1 == i + 1) && !(q.1 + 1 == i && q.2.category == 2)))) ks = lo') (d : decode cc pc = .ok (.lstore i, 2)) (k : WM X o hn M G a b (pc + 2) nL lo' st) : WM X o hn M G a b pc nL lo (.long x :: st) := by
  obtain ⟨⟨l, dC, dI, ac⟩, p, e, R, s, m, args, below, meth, c, Q, A⟩ := X
  obtain ⟨hR, hx, hb, hml, hown, hts, hK, hA, hMF, hrt, hlk, htr⟩ := hX
  intro H locs ls hw hl
  exact lv_lstore hx hb d hl hn' rfl (fun ls2 hl2 => k H locs ls2 hw (lv_sub hl2 ks hl'))
theorem r_sld (hX : CxOK X own cc nL fr lc mc ms rt) {q L : Nat} {xs : Nat → Int32} (hS : ScrOK X q L xs) {i v : Int32} (hv : xs i.toNatClampNeg = v) (hin : vp_in i L) (d : decode cc pc = .ok (.iaload, 1)) (k : WM X o hn M G a b (pc + 1) nL lo (.int v :: st)) : WM X o hn M G a b pc nL lo (.int i :: .ref q :: st) := by
  obtain ⟨⟨l, dC, dI, ac⟩, p, e, R, s, m, args, below, meth, c, Q, A⟩ := X
  obtain ⟨hR, hx, hb, hml, hown, hts, hK, hA, hMF, hrt, hlk, htr⟩ := hX
  obtain ⟨h1, h2, h3⟩ := hS
  intro H locs ls hw hl
  subst hv
  exact va_sld hx hb h1 h2 h3 hw.2.2 hin d (k H locs ls hw hl)
theorem r_slen (hX : CxOK X own cc nL fr lc mc ms rt) {q L : Nat} {xs : Nat → Int32} (hS : ScrOK X q L xs) (d : decode cc pc = .ok (.arraylength, 1)) (k : WM X o hn M G a b (pc + 1) nL lo (.int (nI L) :: st)) : WM X o hn M G a b pc nL lo (.ref q :: st) := by
  obtain ⟨⟨l, dC, dI, ac⟩, p, e, R, s, m, args, below, meth, c, Q, A⟩ := X
  obtain ⟨hR, hx, hb, hml, hown, hts, hK, hA, hMF, hrt, hlk, htr⟩ := hX
  obtain ⟨h1, h2, h3⟩ := hS
  intro H locs ls hw hl
  exact va_slen hx hb h1 h2 h3 hw.2.2 d (k H locs ls hw hl)
theorem q_lcmp_ne (hX : CxOK X own cc nL fr lc mc ms rt) {x y : Int64} {off : Int} (tgt : Nat) (ht : ((pc + 1 : Nat) : Int) + off = (tgt : Int)) (d1 : decode cc pc = .ok (.lcmp, 1)) (d2 : decode cc (pc + 1) = .ok (.ifCond .ne off, 3)) (kt : ¬ x = y → WM X o hn M G a b tgt nL lo st) (kf : x = y → WM X o hn M G a b (pc + 1 + 3) nL lo st) : WM X o hn M G a b pc nL lo (.long y :: .long x :: st) := by
  have hif : WM X o hn M G a b (pc + 1) nL lo (.int (lg_cmp x y) :: st) := q_if_ne hX tgt ht d2 (fun h => kt (fun e => h ((lg_cmp_0 x y).mpr e))) (fun h => kf ((lg_cmp_0 x y).mp h))
  obtain ⟨⟨l, dC, dI, ac⟩, p, e, R, s, m, args, below, meth, c, Q, A⟩ := X
  obtain ⟨hR, hx, hb, hml, hown, hts, hK, hA, hMF, hrt, hlk, htr⟩ := hX
  intro H locs ls hw hl
  exact W.lcmp hx hb d1 (hif H locs ls hw hl)
theorem q_nmL {x : Int64} (k : ∀ y : Int64, y = x → WM X o hn M G a b pc nL lo (.long y :: st)) : WM X o hn M G a b pc nL lo (.long x :: st) := k x rfl
end LawRows
/-! the law's 'cell': a cell of the script, or a number made of its place -/
def s_L_cell (L : Nat) (xs : Nat → Int32) (k : Int32) : Option Int32 := if k < nI L then (if k < 0 ∨ L ≤ k.toNatClampNeg then none else some (xs k.toNatClampNeg)) else some (7919 * (k + 3) * (k + 11))
def PreK (Y : Lx) (o : Nat → Nat) (hn : Nat) (M : Mem) (G : Mel) (q L : Nat) (xs : Nat → Int32) (sz : Nat) (U : State) : Prop := PreM Y o hn M G sz U ∧ va_X q L xs U U.heap ∧ q < U.heap.size ∧ ¬ va_A (Wd Y.2.2.2 o hn M G) sz q
def MS (Y : Lx) (y : MethodName) (bytes : ByteArray) (maxL : Nat) (ret : Option FieldType) (fr lc : Nat) (av : List Value) (o : Nat → Nat) (hn : Nat) (M : Mem) (G : Mel) (q L : Nat) (xs : Nat → Int32) (rs : Rs) : Prop :=
  Y.1.stackTraces = false → ∀ sz : Nat, vx_Met Y.1 y (.code y bytes maxL ret :: BG) { frames := fr, cells := 0, slots := 0, locals := lc } (va_Pc av (PreK Y o hn M G q L xs sz)) (QcM Y (va_A (Wd Y.2.2.2 o hn M G) sz) o hn M G rs) (XcM Y (va_A (Wd Y.2.2.2 o hn M G) sz) o hn M G rs) 0 0 (va_A (Wd Y.2.2.2 o hn M G) sz)
theorem PreK.blind (Y : Lx) (av : List Value) (o : Nat → Nat) (hn : Nat) (M : Mem) (G : Mel) (q L : Nat) (xs : Nat → Int32) (sz : Nat) : FrameBlind (va_Pc av (PreK Y o hn M G q L xs sz)) := by
  intro a U g mk z
  obtain ⟨q0, q1, q2, q3, q4⟩ := z
  exact ⟨q0, (PreM.blind Y av o hn M G sz a U g mk ⟨q0, q1⟩).2, va_X.moved (u := U) (U := U.calling g mk a) (Vm.Alike.refl U.vm) q2, q3, q4⟩
theorem MS.of {Y : Lx} {y : MethodName} {bytes : ByteArray} {maxL : Nat} {ret : Option FieldType} {fr lc : Nat} {av : List Value} {o : Nat → Nat} {hn : Nat} {M : Mem} {G : Mel} {q L : Nat} {xs : Nat → Int32} {rs : Rs} (hy : plainName y.cls = true) (hlen : (lg_sl av).length ≤ maxL)
    (body : ∀ X : Cx, X.1 = Y → CxOK X y.cls bytes maxL fr lc 0 0 ret → CxR X 0 0 o hn M G rs → ScrOK X q L xs → WM X o hn M G 0 0 0 maxL (lv_args 0 av) []) : MS Y y bytes maxL ret fr lc av o hn M G q L xs rs := by
  intro htr sz
  refine vx_ofW (cc := bytes) (maxL := maxL) (ret := ret) hy rfl ?_
  intro p e s m args below meth c s₁ B hml hno hv
  obtain ⟨rfl, ⟨hsz, hP, hK, hD0, hMF⟩, hSX, hSb, hSA⟩ := hv
  subst hsz
  have hts := atoms_spec (ws := .code y bytes maxL ret :: BG) B.pre
  have key := body (Y, p, e, { frames := fr, cells := 0, slots := 0, locals := lc }, s, m, av.toArray, below, meth, c, _, va_A (Wd Y.2.2.2 o hn M G) s.heap.size) rfl ⟨rfl, B.exec, B.bytes, hml, findClass_of_methodNamed B.named, fun w h => hts w (List.mem_cons_of_mem _ h), hK, fun q h => Or.inr h, hMF, B.returns, B.notSynchronized, htr⟩ rfl ⟨hSX, hSb, hSA⟩
  rw [lg_entry_eq]
  exact key s.heap [] _ ⟨hP, hD0.self, va_S.rf⟩ (lv_entry av hlen)

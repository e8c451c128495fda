/-! rows of the law's own body -/
theorem lg_cmp_0 (x y : Int64) : lg_cmp x y = 0 ↔ x = y := by
  unfold lg_cmp
  constructor
  · intro h
    split at h
    · cases h
    · split at h
      · assumption
      · cases h
  · intro h
    subst h
    have h1 : ¬ x < x := by simp
    simp [h1]
def ScrOK (X : Cx) (b L : Nat) (xs : Nat → Int32) : Prop :=
  match X with
  | (_, _, _, _, s, _, _, _, _, _, _, A) => va_X b L xs s s.heap ∧ b < s.heap.size ∧ ¬ A b
section LawRows
variable {X : Cx} {own : String} {cc : ByteArray} {nL fr lc mc ms : Nat} {rt : Option FieldType} {o : Nat → Nat} {hn : Nat} {M : Mem} {G : Mel} {a b pc : Nat} {lo : List (Nat × Value)} {st : List Value}
theorem q_lcmp_eq (hX : CxOK X own cc nL fr lc mc ms rt) {x y : Int64} {off : Int} (tgt : Nat) (ht : ((pc + 1 : Nat) : Int) + off = (tgt : Int)) (d1 : decode cc pc = .ok (.lcmp, 1)) (d2 : decode cc (pc + 1) = .ok (.ifCond .eq off, 3)) (kt : x = y → WM X o hn M G a b tgt nL lo st) (kf : ¬ x = y → WM X o hn M G a b (pc + 1 + 3) nL lo st) : WM X o hn M G a b pc nL lo (.long y :: .long x :: st) := by
  have hif : WM X o hn M G a b (pc + 1) nL lo (.int (lg_cmp x y) :: st) := q_if_eq hX tgt ht d2 (fun h => kt ((lg_cmp_0 x y).mp h)) (fun h => kf (fun e => h ((lg_cmp_0 x y).mpr e)))
  obtain ⟨⟨l, dC, dI, ac⟩, p, e, R, s, m, args, below, meth, c, Q, A⟩ := X
  obtain ⟨hR, hx, hb, hml, hown, hts, hK, hA, hMF, hrt, hlk, htr⟩ := hX
  intro H locs ls hw hl
  exact W.lcmp hx hb d1 (hif H locs ls hw hl)
theorem q_lload (hX : CxOK X own cc nL fr lc mc ms rt) {i : Nat} {x : Int64} (j : Nat) (hj : lo[j]? = some (i, .long x)) (d : decode cc pc = .ok (.lload i, 2)) (k : WM X o hn M G a b (pc + 2) nL lo (.long x :: st)) : WM X o hn M G a b pc nL lo st := by
  obtain ⟨⟨l, dC, dI, ac⟩, p, e, R, s, m, args, below, meth, c, Q, A⟩ := X
  obtain ⟨hR, hx, hb, hml, hown, hts, hK, hA, hMF, hrt, hlk, htr⟩ := hX
  intro H locs ls hw hl
  exact lv_lload hx hb d (lv_at hl j hj) (k H locs ls hw hl)
theorem q_lstore (hX : CxOK X own cc nL fr lc mc ms rt) {i : Nat} {x : Int64} {lo' : List (Nat × Value)} (ks : List Nat) (hn' : i + 1 < nL) (hl' : lv_pick ((i, Value.long x) :: lo.filter (fun q => !(q.1 == i) && (!(q.1 == i + 1) && !(q.1 + 1 == i && q.2.category == 2)))) ks = lo') (d : decode cc pc = .ok (.lstore i, 2)) (k : WM X o hn M G a b (pc + 2) nL lo' st) : WM X o hn M G a b pc nL lo (.long x :: st) := by
  obtain ⟨⟨l, dC, dI, ac⟩, p, e, R, s, m, args, below, meth, c, Q, A⟩ := X
  obtain ⟨hR, hx, hb, hml, hown, hts, hK, hA, hMF, hrt, hlk, htr⟩ := hX
  intro H locs ls hw hl
  exact lv_lstore hx hb d hl hn' rfl (fun ls2 hl2 => k H locs ls2 hw (lv_sub hl2 ks hl'))
theorem r_sld (hX : CxOK X own cc nL fr lc mc ms rt) {q L : Nat} {xs : Nat → Int32} (hS : ScrOK X q L xs) {i v : Int32} (hv : xs i.toNatClampNeg = v) (hin : vp_in i L) (d : decode cc pc = .ok (.iaload, 1)) (k : WM X o hn M G a b (pc + 1) nL lo (.int v :: st)) : WM X o hn M G a b pc nL lo (.int i :: .ref q :: st) := by
  obtain ⟨⟨l, dC, dI, ac⟩, p, e, R, s, m, args, below, meth, c, Q, A⟩ := X
  obtain ⟨hR, hx, hb, hml, hown, hts, hK, hA, hMF, hrt, hlk, htr⟩ := hX
  obtain ⟨h1, h2, h3⟩ := hS
  intro H locs ls hw hl
  subst hv
  exact va_sld hx hb h1 h2 h3 hw.2.2 hin d (k H locs ls hw hl)
theorem r_slen (hX : CxOK X own cc nL fr lc mc ms rt) {q L : Nat} {xs : Nat → Int32} (hS : ScrOK X q L xs) (d : decode cc pc = .ok (.arraylength, 1)) (k : WM X o hn M G a b (pc + 1) nL lo (.int (nI L) :: st)) : WM X o hn M G a b pc nL lo (.ref q :: st) := by
  obtain ⟨⟨l, dC, dI, ac⟩, p, e, R, s, m, args, below, meth, c, Q, A⟩ := X
  obtain ⟨hR, hx, hb, hml, hown, hts, hK, hA, hMF, hrt, hlk, htr⟩ := hX
  obtain ⟨h1, h2, h3⟩ := hS
  intro H locs ls hw hl
  exact va_slen hx hb h1 h2 h3 hw.2.2 d (k H locs ls hw hl)
theorem r_tableIn (hX : CxOK X own cc nL fr lc mc ms rt) {dflt l0 hi : Int} {offs : Array Int} {len : Nat} {x : Int32} {off : Int} (tgt : Nat) (d : decode cc pc = .ok (.tableswitch dflt l0 hi offs, len)) (h1 : ¬ x.toInt < l0) (h2 : ¬ hi < x.toInt) (ho : offs[(x.toInt - l0).toNat]? = some off) (ht : (pc : Int) + off = (tgt : Int)) (k : WM X o hn M G a b tgt nL lo st) : WM X o hn M G a b pc nL lo (.int x :: st) := by
  obtain ⟨⟨l, dC, dI, ac⟩, p, e, R, s, m, args, below, meth, c, Q, A⟩ := X
  obtain ⟨hR, hx, hb, hml, hown, hts, hK, hA, hMF, hrt, hlk, htr⟩ := hX
  intro H locs ls hw hl
  exact lv_tableIn hx hb d h1 h2 ho ht (k H locs ls hw hl)
theorem r_tableOut (hX : CxOK X own cc nL fr lc mc ms rt) {dflt l0 hi : Int} {offs : Array Int} {len : Nat} {x : Int32} (tgt : Nat) (d : decode cc pc = .ok (.tableswitch dflt l0 hi offs, len)) (h : x.toInt < l0 ∨ hi < x.toInt) (ht : (pc : Int) + dflt = (tgt : Int)) (k : WM X o hn M G a b tgt nL lo st) : WM X o hn M G a b pc nL lo (.int x :: st) := by
  obtain ⟨⟨l, dC, dI, ac⟩, p, e, R, s, m, args, below, meth, c, Q, A⟩ := X
  obtain ⟨hR, hx, hb, hml, hown, hts, hK, hA, hMF, hrt, hlk, htr⟩ := hX
  intro H locs ls hw hl
  exact lv_tableOut hx hb d h ht (k H locs ls hw hl)
end LawRows

/-! words of the meaning of methods, and their rows -/
def bnd {α β : Type} (a : α) (f : α → β) : β := f a
theorem bnd_nm {α β : Type} {e v : α} {f : α → β} {r : β} (hv : v = e) (h : bnd e f = r) : f v = r := by subst hv; exact h
theorem bnd_ob {α β : Type} {e : α} {f : α → β} {r : β} (h : bnd e f = r) : ∃ v, e = v ∧ f v = r := ⟨e, rfl, h⟩
theorem ob_bind {α β : Type} {x : Option α} {f : α → Option β} {r : β} (h : x.bind f = some r) : ∃ v, x = some v ∧ f v = some r := by
  cases x with
  | none => cases h
  | some v => exact ⟨v, rfl, h⟩
def mrd (n : Nat) (f : Nat → Int32) (i : Int32) : Option Int32 := if i < 0 ∨ n ≤ i.toNatClampNeg then none else some (f i.toNatClampNeg)
def mrdL (n : Nat) (f : Nat → Int64) (i : Int32) : Option Int64 := if i < 0 ∨ n ≤ i.toNatClampNeg then none else some (f i.toNatClampNeg)
def mwr (n : Nat) (M : Mem) (k : Nat) (i v : Int32) : Option Mem := if i < 0 ∨ n ≤ i.toNatClampNeg then none else some (mst M k i.toNatClampNeg v)
def mwrL (n : Nat) (G : Mel) (k : Nat) (i : Int32) (v : Int64) : Option Mel := if i < 0 ∨ n ≤ i.toNatClampNeg then none else some (mstL G k i.toNatClampNeg v)
def mrs (hn : Nat) (i : Int32) : Option Nat := if (i < 0 ∨ 6 ≤ i.toNatClampNeg) ∨ hn ≤ i.toNatClampNeg then none else some (46 + 7 * i.toNatClampNeg)
def bchk (v : Int32) : Option Int32 := if v = 0 ∨ v = 1 then some v else none
theorem mrd_ok {n : Nat} {f : Nat → Int32} {i v : Int32} (h : mrd n f i = some v) : vp_in i n ∧ f i.toNatClampNeg = v := by
  unfold mrd at h
  split at h
  · cases h
  · next c => exact ⟨c, Option.some.inj h⟩
theorem mrdL_ok {n : Nat} {f : Nat → Int64} {i : Int32} {v : Int64} (h : mrdL n f i = some v) : vp_in i n ∧ f i.toNatClampNeg = v := by
  unfold mrdL at h
  split at h
  · cases h
  · next c => exact ⟨c, Option.some.inj h⟩
theorem mwr_ok {n : Nat} {M M' : Mem} {k : Nat} {i v : Int32} (h : mwr n M k i v = some M') : vp_in i n ∧ mst M k i.toNatClampNeg v = M' := by
  unfold mwr at h
  split at h
  · cases h
  · next c => exact ⟨c, Option.some.inj h⟩
theorem mwrL_ok {n : Nat} {G G' : Mel} {k : Nat} {i : Int32} {v : Int64} (h : mwrL n G k i v = some G') : vp_in i n ∧ mstL G k i.toNatClampNeg v = G' := by
  unfold mwrL at h
  split at h
  · cases h
  · next c => exact ⟨c, Option.some.inj h⟩
theorem mrs_ok {hn : Nat} {i : Int32} {e : Nat} (h : mrs hn i = some e) : vp_in i 6 ∧ i.toNatClampNeg < hn ∧ 46 + 7 * i.toNatClampNeg = e := by
  unfold mrs at h
  split at h
  · cases h
  · next c =>
    have c1 : ¬ (i < 0 ∨ 6 ≤ i.toNatClampNeg) := fun z => c (Or.inl z)
    have c2 : ¬ hn ≤ i.toNatClampNeg := fun z => c (Or.inr z)
    exact ⟨c1, by omega, Option.some.inj h⟩
theorem mrs_em {hn : Nat} {i : Int32} {e : Nat} (h : mrs hn i = some e) : em hn e := by
  obtain ⟨-, h1, rfl⟩ := mrs_ok h
  exact em_i h1
theorem bchk_ok {v w : Int32} (h : bchk v = some w) : v = w ∧ (w = 0 ∨ w = 1) := by
  unfold bchk at h
  split at h
  · next c => cases h; exact ⟨rfl, c⟩
  · cases h
/-- how many turns a loop is given -/
def FU : Nat := 20000
theorem lt46 {o : Nat → Nat} {k hn : Nat} (h : 28 ≤ k ∧ k < 46) : IDL o hn k := Or.inl (by omega)
theorem tb_28 {hn t : Nat} (h : tb hn t) : 28 ≤ t := by
  rcases h.1 with h | h | h | h | h | h | ⟨h, -⟩ <;> omega
theorem tb_lt {o : Nat → Nat} {t hn : Nat} (h : tb hn t) : IDL o hn t := Or.inl ⟨tb_28 h, Nat.lt_of_succ_lt h.2⟩
theorem tb_lt1 {o : Nat → Nat} {t hn : Nat} (h : tb hn t) : IDL o hn (t + 1) := Or.inl ⟨Nat.le_succ_of_le (tb_28 h), h.2⟩
theorem em_lt {o : Nat → Nat} {t hn : Nat} (h : em hn t) : IDL o hn t := Or.inl ⟨Nat.le_trans (by decide) h.1, h.2.2⟩
theorem ar26 {o : Nat → Nat} {hn : Nat} (h : o 0 = 1) : IDL o hn 26 := Or.inr ⟨Or.inl rfl, h⟩
theorem ar27 {o : Nat → Nat} {hn : Nat} (h : o 0 = 1) : IDL o hn 27 := Or.inr ⟨Or.inr rfl, h⟩
section Rows2
variable {X : Cx} {own : String} {cc : ByteArray} {nL fr lc mc ms : Nat} {rt : Option FieldType} {o : Nat → Nat} {hn : Nat} {M : Mem} {G : Mel} {a b pc : Nat} {lo : List (Nat × Value)} {st : List Value}
theorem q_lo {lo' : List (Nat × Value)} (ks : List Nat) (h : lv_pick lo ks = lo') (k : WM X o hn M G a b pc nL lo' st) : WM X o hn M G a b pc nL lo st := by
  obtain ⟨⟨l, dC, dI, ac⟩, p, e, R, s, m, args, below, meth, c, Q, A⟩ := X
  intro H locs ls hw hl
  exact k H locs ls hw (lv_sub hl ks h)
theorem q_nm {x : Int32} (k : ∀ y : Int32, y = x → WM X o hn M G a b pc nL lo (.int y :: st)) : WM X o hn M G a b pc nL lo (.int x :: st) := k x rfl
theorem q_astore (hX : CxOK X own cc nL fr lc mc ms rt) {i x : Nat} {lo' : List (Nat × Value)} (ks : List Nat) (hn' : i < nL) (hl' : lv_pick ((i, Value.ref x) :: lo.filter (fun q => !(q.1 == i) && !(q.1 + 1 == i && q.2.category == 2))) ks = lo') (d : decode cc pc = .ok (.astore i, 2)) (k : WM X o hn M G a b (pc + 2) nL lo' st) : WM X o hn M G a b pc nL lo (.ref x :: st) := by
  obtain ⟨⟨l, dC, dI, ac⟩, p, e, R, s, m, args, below, meth, c, Q, A⟩ := X
  obtain ⟨hR, hx, hb, hml, hown, hts, hK, hA, hMF, hrt, hlk, htr⟩ := hX
  intro H locs ls hw hl
  exact lv_astore hx hb d hl hn' rfl (fun ls2 hl2 => k H locs ls2 hw (lv_sub hl2 ks hl'))
theorem r_iald (hX : CxOK X own cc nL fr lc mc ms rt) {id n : Nat} {i v : Int32} (hk : IDL o hn id) (he : ∀ f g, ob X.1.2.2.2 o hn id f g = .inl (X.1.2.2.2 0, n, .inl f)) (hW : mrd n (M id) i = some v) (d : decode cc pc = .ok (.iaload, 1)) (k : WM X o hn M G a b (pc + 1) nL lo (.int v :: st)) : WM X o hn M G a b pc nL lo (.int i :: .ref (o id) :: st) := by
  obtain ⟨h1, rfl⟩ := mrd_ok hW
  exact q_iald hX hk (he _ _) h1 d k
theorem r_iast (hX : CxOK X own cc nL fr lc mc ms rt) {id n : Nat} {i x : Int32} {M' : Mem} (hk : IDL o hn id) (he : ∀ f g, ob X.1.2.2.2 o hn id f g = .inl (X.1.2.2.2 0, n, .inl f)) (hW : mwr n M id i x = some M') (d : decode cc pc = .ok (.iastore, 1)) (k : WM X o hn M' G a b (pc + 1) nL lo st) : WM X o hn M G a b pc nL lo (.int x :: .int i :: .ref (o id) :: st) := by
  obtain ⟨h1, rfl⟩ := mwr_ok hW
  exact q_iast hX hk he h1 d k
theorem r_aald (hX : CxOK X own cc nL fr lc mc ms rt) {i : Int32} {e : Nat} (hW : mrs hn i = some e) (d : decode cc pc = .ok (.aaload, 1)) (k : WM X o hn M G a b (pc + 1) nL lo (.ref (o e) :: st)) : WM X o hn M G a b pc nL lo (.int i :: .ref (o 29) :: st) := by
  obtain ⟨h1, h2, rfl⟩ := mrs_ok hW
  exact q_aald hX h1 h2 d k
theorem r_alen (hX : CxOK X own cc nL fr lc mc ms rt) {id n : Nat} (v : Int32) (hk : IDL o hn id) (he : ∀ f g, ob X.1.2.2.2 o hn id f g = .inl (X.1.2.2.2 0, n, .inl f)) (hv : nI n = v) (d : decode cc pc = .ok (.arraylength, 1)) (k : WM X o hn M G a b (pc + 1) nL lo (.int v :: st)) : WM X o hn M G a b pc nL lo (.ref (o id) :: st) := by
  exact q_alen hX (t := 0) (x := (n, .inl (M id))) v hk (he _ _) rfl hv d k
theorem r_alenS (hX : CxOK X own cc nL fr lc mc ms rt) (d : decode cc pc = .ok (.arraylength, 1)) (k : WM X o hn M G a b (pc + 1) nL lo (.int 6 :: st)) : WM X o hn M G a b pc nL lo (.ref (o 29) :: st) := by
  exact q_alen hX (t := 1) (id := 29) (x := (6, .inr (.inr (.inr (.inr (fun j => if j < hn then some (o (46 + 7 * j)) else none)))))) 6 (lt46 (by decide)) rfl rfl rfl d k
theorem r_min (hX : CxOK X own cc nL fr lc mc ms rt) {x y : Int32} {idx : Nat} (hl : Cond.methodLink own idx Lib.Math.min.name ∈ BG) (hs : Cond.static Lib.Math.min.name ∈ BG) (hi : Cond.initialized "java/lang/Math" ∈ BG) (hc : Cond.code Lib.Math.min.name Lib.Math.min.code 2 (some .int) ∈ BG) (h1 : 1 ≤ fr) (h2 : (st.map fun v => v.category).sum + 13 ≤ lc) (h3 : a ≤ mc) (h4 : b ≤ ms) (d : decode cc pc = .ok (.invokestatic idx, 3)) (k : WM X o hn M G a b (pc + 3) nL lo (.int (if y < x then y else x) :: st)) : WM X o hn M G a b pc nL lo (.int y :: .int x :: st) := by
  obtain ⟨⟨l, dC, dI, ac⟩, p, e, R, s, m, args, below, meth, c, Q, A⟩ := X
  obtain ⟨hR, hx, hb, hml, hown, hts, hK, hA, hMF, hrt, hlk, htr⟩ := hX
  intro H locs ls hw hl2
  exact va_mmin hx hb (by rw [hml, hl2.1]) hown (hts _ hl) (hts _ hs) (hts _ hi) (hts _ hc) (by rw [hR]; exact h1) (by rw [hR]; exact h2) (by rw [hR]; exact h3) (by rw [hR]; exact h4) d (k H locs ls hw hl2)
theorem r_max (hX : CxOK X own cc nL fr lc mc ms rt) {x y : Int32} {idx : Nat} (hl : Cond.methodLink own idx Lib.Math.max.name ∈ BG) (hs : Cond.static Lib.Math.max.name ∈ BG) (hi : Cond.initialized "java/lang/Math" ∈ BG) (hc : Cond.code Lib.Math.max.name Lib.Math.max.code 2 (some .int) ∈ BG) (h1 : 1 ≤ fr) (h2 : (st.map fun v => v.category).sum + 13 ≤ lc) (h3 : a ≤ mc) (h4 : b ≤ ms) (d : decode cc pc = .ok (.invokestatic idx, 3)) (k : WM X o hn M G a b (pc + 3) nL lo (.int (if x < y then y else x) :: st)) : WM X o hn M G a b pc nL lo (.int y :: .int x :: st) := by
  obtain ⟨⟨l, dC, dI, ac⟩, p, e, R, s, m, args, below, meth, c, Q, A⟩ := X
  obtain ⟨hR, hx, hb, hml, hown, hts, hK, hA, hMF, hrt, hlk, htr⟩ := hX
  intro H locs ls hw hl2
  exact va_mmax hx hb (by rw [hml, hl2.1]) hown (hts _ hl) (hts _ hs) (hts _ hi) (hts _ hc) (by rw [hR]; exact h1) (by rw [hR]; exact h2) (by rw [hR]; exact h3) (by rw [hR]; exact h4) d (k H locs ls hw hl2)
theorem mst_off {M M1 : Mem} {k j : Nat} {v : Int32} (h : M1 = mst M k j v) : ∀ q, q ≠ k → M1 q = M q := by subst h; exact fun q hq => mst_ne M j v hq
theorem mstL_off {G G1 : Mel} {k j : Nat} {v : Int64} (h : G1 = mstL G k j v) : ∀ q, q ≠ k → G1 q = G q := by subst h; exact fun q hq => mstL_ne G j v hq
theorem mst_on {M M1 : Mem} {k j : Nat} {v : Int32} (h : M1 = mst M k j v) : M1 k = upd (M k) j v := by subst h; exact mst_self M k j v
theorem mstL_on {G G1 : Mel} {k j : Nat} {v : Int64} (h : G1 = mstL G k j v) : G1 k = vp_updL (G k) j v := by subst h; exact mstL_self G k j v
theorem pu_T_rows (hX : CxOK X own cc nL fr lc mc ms rt) {t : Nat} (ht : tb hn t) {index : Nat} {v : Int32} {M1 : Mem} (hM : M1 = mst M t 2 v) (hfl : FL own index (TX4 2).1 (TX4 2).2.1 (TX4 2).2.2.1) (d : decode cc pc = .ok (.putfield index, 3)) (k : WM X o hn M1 G a b (pc + 3) nL lo st) : WM X o hn M G a b pc nL lo (.int v :: .ref (o t) :: st) := by
  have hon := mst_on hM
  refine q_put hX (id := t) (ci := 4) (N := 3) (T := TX4) (C := RX4) (ty := .int) (ty0 := tyX4) 2 (tb_lt ht) (ob_T ht.1 _ _) (by rw [hon]; exact (ob_T ht.1 _ _)) (mst_off hM) (fun _ _ => rfl) rfl in_X4 tyX4_ok nmX4 (by decide) hfl rfl (by decide +kernel) rfl rfl (by show _ < _; simp) d k
theorem pu_E_wage (hX : CxOK X own cc nL fr lc mc ms rt) {t : Nat} (ht : em hn t) {index : Nat} {v : Int32} {M1 : Mem} (hM : M1 = mst M t 0 v) (hfl : FL own index (TX0 0).1 (TX0 0).2.1 (TX0 0).2.2.1) (d : decode cc pc = .ok (.putfield index, 3)) (k : WM X o hn M1 G a b (pc + 3) nL lo st) : WM X o hn M G a b pc nL lo (.int v :: .ref (o t) :: st) := by
  have hon := mst_on hM
  refine q_put hX (id := t) (ci := 0) (N := 6) (T := TX0) (C := RX0) (ty := .int) (ty0 := tyX0) 0 (em_lt ht) (ob_E ht _ _) (by rw [hon]; exact (ob_E ht _ _)) (mst_off hM) (fun _ _ => rfl) rfl in_X0 tyX0_ok nmX0 (by decide) hfl rfl (by decide +kernel) rfl rfl (by show _ < _; simp) d k
theorem pu_E_weeks (hX : CxOK X own cc nL fr lc mc ms rt) {t : Nat} (ht : em hn t) {index : Nat} {v : Int32} {M1 : Mem} (hM : M1 = mst M t 1 v) (hfl : FL own index (TX0 1).1 (TX0 1).2.1 (TX0 1).2.2.1) (d : decode cc pc = .ok (.putfield index, 3)) (k : WM X o hn M1 G a b (pc + 3) nL lo st) : WM X o hn M G a b pc nL lo (.int v :: .ref (o t) :: st) := by
  have hon := mst_on hM
  refine q_put hX (id := t) (ci := 0) (N := 6) (T := TX0) (C := RX0) (ty := .int) (ty0 := tyX0) 1 (em_lt ht) (ob_E ht _ _) (by rw [hon]; exact (ob_E ht _ _)) (mst_off hM) (fun _ _ => rfl) rfl in_X0 tyX0_ok nmX0 (by decide) hfl rfl (by decide +kernel) rfl rfl (by show _ < _; simp) d k
theorem pu_L_cov (hX : CxOK X own cc nL fr lc mc ms rt) {index : Nat} {v : Int32} {M1 : Mem} (hM : M1 = mst M 38 3 v) (hfl : FL own index (TX5 3).1 (TX5 3).2.1 (TX5 3).2.2.1) (d : decode cc pc = .ok (.putfield index, 3)) (k : WM X o hn M1 G a b (pc + 3) nL lo st) : WM X o hn M G a b pc nL lo (.int v :: .ref (o 38) :: st) := by
  have hon := mst_on hM
  refine q_put hX (id := 38) (ci := 5) (N := 4) (T := TX5) (C := RX5) (ty := .int) (ty0 := tyX5) 3 (lt46 (by decide)) rfl (by rw [hon]; exact rfl) (mst_off hM) (fun _ _ => rfl) rfl in_X5 tyX5_ok nmX5 (by decide) hfl rfl (by decide +kernel) rfl rfl (by show _ < _; simp) d k
theorem pu_S_rep (hX : CxOK X own cc nL fr lc mc ms rt) {index : Nat} {v : Int32} {M1 : Mem} (hM : M1 = mst M 43 1 v) (hfl : FL own index (TX3 1).1 (TX3 1).2.1 (TX3 1).2.2.1) (d : decode cc pc = .ok (.putfield index, 3)) (k : WM X o hn M1 G a b (pc + 3) nL lo st) : WM X o hn M G a b pc nL lo (.int v :: .ref (o 43) :: st) := by
  have hon := mst_on hM
  refine q_put hX (id := 43) (ci := 3) (N := 2) (T := TX3) (C := RX3) (ty := .int) (ty0 := tyX3) 1 (lt46 (by decide)) rfl (by rw [hon]; exact rfl) (mst_off hM) (fun _ _ => rfl) rfl in_X3 tyX3_ok nmX3 (by decide) hfl rfl (by decide +kernel) rfl rfl (by show _ < _; simp) d k
theorem pu_E_earn (hX : CxOK X own cc nL fr lc mc ms rt) {t : Nat} (ht : em hn t) {index : Nat} {v : Int64} {G1 : Mel} (hM : G1 = mstL G t 2 v) (hfl : FL own index (TX0 2).1 (TX0 2).2.1 (TX0 2).2.2.1) (d : decode cc pc = .ok (.putfield index, 3)) (k : WM X o hn M G1 a b (pc + 3) nL lo st) : WM X o hn M G a b pc nL lo (.long v :: .ref (o t) :: st) := by
  have hon := mstL_on hM
  refine q_put hX (id := t) (ci := 0) (N := 6) (T := TX0) (C := RX0) (ty := .long) (ty0 := tyX0) 2 (em_lt ht) (ob_E ht _ _) (by rw [hon]; exact (ob_E ht _ _)) (fun _ _ => rfl) (mstL_off hM) rfl in_X0 tyX0_ok nmX0 (by decide) hfl rfl (by decide +kernel) rfl rfl (by show _ < _; simp) d k
end Rows2

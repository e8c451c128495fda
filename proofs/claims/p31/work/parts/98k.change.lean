/-! what changes the state -/
theorem room_ok {M : Mem} {t n m : Nat} {f : Nat → Nat → Int} (h : Tb M t n f) (hm : m ≤ 1000) : s_X6_requireRoom M t (iI (m : Int)) = if n < m then some 0 else some 2 := by
  have hn := h.n_b
  unfold s_X6_requireRoom
  rw [X4_size h, Option.bind_some]
  by_cases c : n < m
  · rw [if_pos (by rw [iI_lt] <;> omega), if_pos c]
  · rw [if_neg (by rw [iI_lt] <;> omega), if_neg c]
theorem X6_hand {M : Mem} {t : Nat} {E : List (Nat × Nat)} (hT : Tl M t E) (hw : wd t = 2) (hl : tl t = 40) {x y : Nat} (h1 : s_X6_requireWithin (iI (x : Int)) 0 10079 = some 0) (h2 : s_X6_requireWithin (iI (y : Int)) (iI (x : Int) + 1) 10080 = some 0) : if E.length < 20 then ∃ M1, s_X6_addByHand M t (iI x) (iI y) 20 = some (0, iI (E.length : Int), M1) ∧ Tl M1 t ((x, y) :: E) ∧ Fr t M M1 else s_X6_addByHand M t (iI x) (iI y) 20 = some (2, 0, M) := by
  have h3 : s_X6_requireRoom M t 20 = if E.length < 20 then some 0 else some 2 := room_ok hT (m := 20) (by omega)
  by_cases c : E.length < 20
  · rw [if_pos c] at h3 ⊢
    obtain ⟨M1, a1, a2, a3⟩ := hT.add hw (by omega) x y
    refine ⟨M1, ?_, a2, a3⟩
    unfold s_X6_addByHand
    rw [h1, Option.bind_some, if_neg (not_not_intro rfl), h2, Option.bind_some, if_neg (not_not_intro rfl), h3, Option.bind_some, if_neg (not_not_intro rfl), a1, Option.bind_some, X4_size a2, Option.bind_some, List.length_cons, li_1, iI_sub]
    exact congrArg (fun z => some (0, iI z, M1)) (by omega)
  · rw [if_neg c] at h3 ⊢
    unfold s_X6_addByHand
    rw [h1, Option.bind_some, if_neg (not_not_intro rfl), h2, Option.bind_some, if_neg (not_not_intro rfl), h3]
    rfl
def pIns (pr : Nat → Nat → Nat) (n a b c d : Nat) (i j : Nat) : Nat := if i = n then (if j = 0 then a else if j = 1 then b else if j = 2 then c else d) else pr i j
theorem X2_add {M : Mem} {n : Nat} {pr : Nat → Nat → Nat} (h : Tb M 31 n (pmf pr)) (hn : n < 6) (a b c d : Nat) : ∃ M1, s_X2_add M (iI a) (iI b) (iI c) (iI d) = some (iI (n : Int), M1) ∧ Tb M1 31 (n + 1) (pmf (pIns pr n a b c d)) ∧ Fr 31 M M1 := by
  have hw : wd 31 = 4 := rfl
  obtain ⟨M1, g1, a1, a2, a3, a4⟩ := X4_insert h (Nat.le_refl n) (by rw [hw]; show _ ≤ 24; omega)
  obtain ⟨M2, b1, b2, b3⟩ := X4_set a2 (i := n) (c := 0) (by omega) (by rw [hw]; omega) (a : Int)
  obtain ⟨M3, c1, c2, c3⟩ := X4_set b2 (i := n) (c := 1) (by omega) (by rw [hw]; omega) (b : Int)
  obtain ⟨M4, d1, d2, d3⟩ := X4_set c2 (i := n) (c := 2) (by omega) (by rw [hw]; omega) (c : Int)
  obtain ⟨M5, e1, e2, e3⟩ := X4_set d2 (i := n) (c := 3) (by omega) (by rw [hw]; omega) (d : Int)
  refine ⟨M5, ?_, e2.ext (fun i j hi hj => ?_), (((a4.tr b3).tr c3).tr d3).tr e3⟩
  · have b1' : s_X4_set M1 31 (iI n) 0 (iI a) = some M2 := b1
    have c1' : s_X4_set M2 31 (iI n) 1 (iI b) = some M3 := c1
    have d1' : s_X4_set M3 31 (iI n) 2 (iI c) = some M4 := d1
    have e1' : s_X4_set M4 31 (iI n) 3 (iI d) = some M5 := e1
    unfold s_X2_add
    rw [X4_size h, Option.bind_some, a1, Option.bind_some, b1', Option.bind_some, c1', Option.bind_some, d1', Option.bind_some, e1', Option.bind_some]
  · rw [hw] at hj
    unfold pmf pIns
    by_cases q : i = n
    · rw [if_pos q]
      by_cases q3 : j = 3
      · rw [if_pos ⟨q, q3⟩, if_neg (by omega), if_neg (by omega), if_neg (by omega)]
      · rw [if_neg (fun z => q3 z.2)]
        by_cases q2 : j = 2
        · rw [if_pos ⟨q, q2⟩, if_neg (by omega), if_neg (by omega), if_pos q2]
        · rw [if_neg (fun z => q2 z.2)]
          by_cases q1 : j = 1
          · rw [if_pos ⟨q, q1⟩, if_neg (by omega), if_pos q1]
          · rw [if_neg (fun z => q1 z.2), if_pos ⟨q, by omega⟩, if_pos (by omega)]
    · rw [if_neg q, if_neg (fun z => q z.1), if_neg (fun z => q z.1), if_neg (fun z => q z.1), if_neg (fun z => q z.1), a3 i j hi q (by rw [hw]; exact hj), if_pos (by omega)]
      rfl
section
variable {M : Mem} {G : Mel} {E B : List (Nat × Nat)} {pn : Nat} {pr : Nat → Nat → Nat} {x y : Int32}
theorem hand_in {a b : Nat} (h : a < b) (hb : b ≤ 10080) : s_X6_requireWithin (iI (a : Int)) 0 10079 = some 0 ∧ s_X6_requireWithin (iI (b : Int)) (iI (a : Int) + 1) 10080 = some 0 := by
  refine ⟨wthin (k := a) (a := 0) (b := 10079) (by omega) (by omega) (by omega) (by omega), ?_⟩
  rw [li_1, iI_add]
  exact wthin (k := b) (a := (a : Int) + 1) (b := 10080) (by omega) (by omega) (by omega) (by omega)
theorem SpOK.add {l : List (Nat × Nat)} (h : SpOK l 20) (hl : l.length < 20) {a b : Nat} (hab : a < b) (hb : b ≤ 10080) : SpOK ((a, b) :: l) 20 := by
  refine ⟨by rw [List.length_cons]; omega, fun q hq => ?_⟩
  rcases List.mem_cons.mp hq with rfl | hq
  · exact ⟨by show a ≤ b; omega, hb⟩
  · exact h.2 q hq
theorem c_enter (h : St M E B pn pr x y) (hl : E.length < 20) {a b : Nat} (hab : a < b) (hb : b ≤ 10080) : ∃ v M', s_X6_enter M 1 0 (iI a) (iI b) = some (0, v, M') ∧ St M' ((a, b) :: E) B pn pr x y := by
  obtain ⟨w1, w2⟩ := hand_in hab hb
  have K := X6_hand (t := 49) h.2.1.2 rfl rfl w1 w2
  rw [if_pos hl] at K
  obtain ⟨M1, a1, a2, a3⟩ := K
  refine ⟨iI (E.length : Int), M1, ?_, ⟨h.1.fr a3 (by decide) (by decide) (by decide), ⟨h.2.1.1.add hl hab hb, a2⟩, ⟨h.2.2.1.1, h.2.2.1.2.fr a3 (by decide) (by decide) (by decide)⟩, ⟨h.2.2.2.1.1, h.2.2.2.1.2.fr a3 (by decide) (by decide) (by decide)⟩, by rw [a3.1 46 (by decide) (by decide)]; exact h.2.2.2.2.1, by rw [a3.1 46 (by decide) (by decide)]; exact h.2.2.2.2.2⟩⟩
  unfold s_X6_enter
  rw [find0, Option.bind_some, if_neg (not_not_intro rfl)]
  dsimp only
  rw [a1, Option.bind_some, if_neg (not_not_intro rfl)]
theorem c_enterBreak (h : St M E B pn pr x y) (hl : B.length < 20) {a b : Nat} (hab : a < b) (hb : b ≤ 10080) : ∃ v M', s_X6_enterBreak M 1 0 (iI a) (iI b) = some (0, v, M') ∧ St M' E ((a, b) :: B) pn pr x y := by
  obtain ⟨w1, w2⟩ := hand_in hab hb
  have K := X6_hand (t := 51) h.2.2.1.2 rfl rfl w1 w2
  rw [if_pos hl] at K
  obtain ⟨M1, a1, a2, a3⟩ := K
  refine ⟨iI (B.length : Int), M1, ?_, ⟨h.1.fr a3 (by decide) (by decide) (by decide), ⟨h.2.1.1, h.2.1.2.fr a3 (by decide) (by decide) (by decide)⟩, ⟨h.2.2.1.1.add hl hab hb, a2⟩, ⟨h.2.2.2.1.1, h.2.2.2.1.2.fr a3 (by decide) (by decide) (by decide)⟩, by rw [a3.1 46 (by decide) (by decide)]; exact h.2.2.2.2.1, by rw [a3.1 46 (by decide) (by decide)]; exact h.2.2.2.2.2⟩⟩
  unfold s_X6_enterBreak
  rw [find0, Option.bind_some, if_neg (not_not_intro rfl)]
  dsimp only
  rw [a1, Option.bind_some, if_neg (not_not_intro rfl)]
theorem c_addPremium (h : St M E B pn pr x y) (hn : pn < 6) {a b c d : Nat} (h1 : 1 ≤ a ∧ a < 128) (h2 : b < 1440) (h3 : c < 1440) (h4 : 1 ≤ d ∧ d ≤ 10000) : ∃ v M', s_X6_addPremium M (iI a) (iI b) (iI c) (iI d) = some (0, v, M') ∧ St M' E B (pn + 1) (pIns pr pn a b c d) x y := by
  have w1 : s_X6_requireWithin (iI a) 1 127 = some 0 := wthin (k := a) (a := 1) (b := 127) (by omega) (by omega) (by omega) (by omega)
  have w2 : s_X6_requireWithin (iI b) 0 1439 = some 0 := wthin (k := b) (a := 0) (b := 1439) (by omega) (by omega) (by omega) (by omega)
  have w3 : s_X6_requireWithin (iI c) 0 1439 = some 0 := wthin (k := c) (a := 0) (b := 1439) (by omega) (by omega) (by omega) (by omega)
  have w4 : s_X6_requireWithin (iI d) 1 10000 = some 0 := wthin (k := d) (a := 1) (b := 10000) (by omega) (by omega) (by omega) (by omega)
  have hR : s_X6_requireRoom M 31 6 = if pn < 6 then some 0 else some 2 := room_ok h.2.2.2.1.2 (m := 6) (by omega)
  rw [if_pos hn] at hR
  obtain ⟨M1, c1, c2, c3⟩ := X2_add h.2.2.2.1.2 hn a b c d
  refine ⟨iI (pn : Int), M1, ?_, ⟨h.1.fr c3 (by decide) (by decide) (by decide), ⟨h.2.1.1, h.2.1.2.fr c3 (by decide) (by decide) (by decide)⟩, ⟨h.2.2.1.1, h.2.2.1.2.fr c3 (by decide) (by decide) (by decide)⟩, ⟨⟨by omega, fun i hi => ?_⟩, c2⟩, by rw [c3.1 46 (by decide) (by decide)]; exact h.2.2.2.2.1, by rw [c3.1 46 (by decide) (by decide)]; exact h.2.2.2.2.2⟩⟩
  · unfold s_X6_addPremium
    rw [w1, Option.bind_some, if_neg (not_not_intro rfl), w2, Option.bind_some, if_neg (not_not_intro rfl), w3, Option.bind_some, if_neg (not_not_intro rfl), w4, Option.bind_some, if_neg (not_not_intro rfl), hR, Option.bind_some, if_neg (not_not_intro rfl), c1]
    rfl
  · unfold pIns
    by_cases z : i = pn
    · rw [if_pos z, if_pos z, if_pos z, if_pos z]
      exact ⟨h1.2, h2, h3, h4.2⟩
    · rw [if_neg z, if_neg z, if_neg z, if_neg z]
      exact h.2.2.2.1.1.2 i (by omega)
theorem iI_eq0 {n : Nat} (h : n ≤ 100000) : (iI (n : Int) = 0) = (n = 0) := by
  rw [li_0, iI_eq (by omega) (by omega)]
  exact propext ⟨fun h => by omega, fun h => by omega⟩
theorem c_closeWeek (h : St M E B pn pr x y) (hE : E ≠ []) (G : Mel) : ∃ M' G', s_X6_closeWeek M G 1 0 = some (0, bas x E B + xtr pn pr E B, M', G') ∧ St M' [] [] pn pr x (y + 1) ∧ G' 46 2 = G 46 2 + (bas x E B + xtr pn pr E B).toInt64 := by
  obtain ⟨M1, c1, c2, c3⟩ := h.read
  have h1 := h.fq c3
  have hE20 := h.2.1.1.1
  have hEl : 0 < E.length := List.length_pos_iff.mpr hE
  obtain ⟨z, ez⟩ : ∃ z, z = bas x E B + xtr pn pr E B := ⟨_, rfl⟩
  obtain ⟨G1, s1⟩ : ∃ G1, G1 = mstL G 46 2 (G 46 2 + z.toInt64) := ⟨_, rfl⟩
  obtain ⟨Ma, ga⟩ : ∃ Ma, Ma = mst M1 46 1 (M1 46 1 + 1) := ⟨_, rfl⟩
  obtain ⟨Mb, b1, b2, b3⟩ := X4_clear Ma 47 (pnf (fun _ => 0) (fun _ => false))
  obtain ⟨Mc, d1, d2, d3⟩ := X4_clear Mb 49 (spf [])
  obtain ⟨Md, e1, e2, e3⟩ := X4_clear Mc 51 (spf [])
  have hb : s_X0_beginNextWeek M1 G 46 z = some (Md, G1) := by
    unfold s_X0_beginNextWeek bnd
    rw [← ga]
    show ((s_X4_clear Ma 47).bind fun r3 => (s_X4_clear r3 49).bind fun r4 => (s_X4_clear r4 51).bind fun r5 => some (r5, mstL G 46 2 (G 46 2 + z.toInt64))) = some (Md, G1)
    rw [b1, Option.bind_some, d1, Option.bind_some, e1, Option.bind_some, s1]
  have f46 : Md 46 = Ma 46 := by rw [e3.1 46 (by decide) (by decide), d3.1 46 (by decide) (by decide), b3.1 46 (by decide) (by decide)]
  refine ⟨Md, G1, ?_, ⟨?_, ⟨⟨by simp, fun q hq => by cases hq⟩, ?_⟩, ⟨⟨by simp, fun q hq => by cases hq⟩, e2⟩, ⟨h.2.2.2.1.1, ?_⟩, ?_, ?_⟩, ?_⟩
  · unfold s_X6_closeWeek
    rw [find0, Option.bind_some, if_neg (not_not_intro rfl)]
    dsimp only
    rw [show 46 + 1 = 47 from rfl, show 46 + 3 = 49 from rfl, X4_size h.1, Option.bind_some, if_pos (show iI ((0 : Nat) : Int) = 0 from rfl), h.2.1.2.size, Option.bind_some, if_neg (by rw [iI_eq0 (by omega)]; omega), c1, Option.bind_some, h1.2.2.2.2.1, basic c2, Option.bind_some, X2_payFor h1.2.2.2.1.1 h1.2.2.2.1.2 c2, Option.bind_some]
    unfold bnd
    have ez' : bas x E B + (iI (ex pn pr (PP E B) 10080) + 30) / 60 = z := ez.symm
    rw [ez']
    dsimp only
    rw [hb, Option.bind_some, ← ez]
  · exact (b2.fr d3 (by decide) (by decide) (by decide)).fr e3 (by decide) (by decide) (by decide)
  · have d2' : Tl Mc 49 [] := d2
    exact d2'.fr e3 (by decide) (by decide) (by decide)
  · have q31 : ∀ k, k = 31 ∨ k = 32 → Md k = M1 k := fun k hk => by rw [e3.1 k (by omega) (by omega), d3.1 k (by omega) (by omega), b3.1 k (by omega) (by omega), ga, mst_k _ _ _ _ (by omega)]
    exact h1.2.2.2.1.2.congr (by rw [q31 31 (by omega)]) (q31 _ (by omega))
  · rw [f46, ga, mst_a, if_pos rfl, if_neg (by decide)]
    exact h1.2.2.2.2.1
  · rw [f46, ga, mst_a, if_pos rfl, if_pos rfl, h1.2.2.2.2.2]
  · rw [s1, mstL_self, ← ez]
    rfl
theorem q_earned (G : Mel) : s_X6_earned G 1 0 = some (0, G 46 2) := by
  unfold s_X6_earned
  rw [find0, Option.bind_some, if_neg (not_not_intro rfl)]
theorem q_closed (h : St M E B pn pr x y) : s_X6_closedWeeks M 1 0 = some (0, y) := by
  unfold s_X6_closedWeeks
  rw [find0, Option.bind_some, if_neg (not_not_intro rfl)]
  dsimp only
  rw [h.2.2.2.2.2]
/-! an empty week -/
theorem WW_none : ∀ m, WW [] [] m = false := fun m => rfl
theorem PP_none : ∀ m, PP [] [] m = false := fun m => by
  unfold PP pd
  rw [WW_none m]
  rfl
theorem qm_none (j d : Nat) : qm [] [] j d = 0 := kc_none PP_none _ _ _ _
theorem wq_none (j : Nat) : wq (qm [] [] j) = 0 := by
  have h : qm [] [] j = fun _ => 0 := funext (qm_none j)
  rw [h]
  rfl
theorem bas_none (x : Int32) : bas x [] [] = 0 := by
  unfold bas
  rw [wq_none, wq_none, wq_none]
  have e : ((2 * iI ((0 : Nat) : Int)) + (3 * iI ((0 : Nat) : Int))) + (4 * iI ((0 : Nat) : Int)) = 0 := by decide +kernel
  rw [e, Int32.mul_zero]
  decide +kernel
theorem xtr_none (pn : Nat) (pr : Nat → Nat → Nat) : xtr pn pr [] [] = 0 := by
  unfold xtr
  rw [ex_none PP_none]
  decide +kernel
theorem xtr_free (pr : Nat → Nat → Nat) (E B : List (Nat × Nat)) : xtr 0 pr E B = 0 := by
  unfold xtr
  rw [ex_free]
  decide +kernel
theorem q_isEmpty (h : St M [] [] pn pr x y) : ∃ M', s_L_isEmpty M 1 0 = some (1, M') ∧ Fq M M' := by
  obtain ⟨M1, a1, f1⟩ := q_pay h
  have g1 := h.fq f1
  obtain ⟨M2, a2, f2⟩ := q_shifts g1
  have g2 := g1.fq f2
  obtain ⟨M3, a3, f3⟩ := q_stretches g2
  have g3 := g2.fq f3
  obtain ⟨M4, a4, f4⟩ := q_overlap g3
  have g4 := g3.fq f4
  obtain ⟨M5, a5, f5⟩ := q_longest g4
  have g5 := g4.fq f5
  obtain ⟨M6, a6, f6⟩ := q_repaired g5
  refine ⟨M6, ?_, ((((f1.tr f2).tr f3).tr f4).tr f5).tr f6⟩
  have e1 : bas x [] [] + xtr pn pr [] [] = 0 := by rw [bas_none, xtr_none]; decide +kernel
  have e3 : (rr (WW [] []) 10080) = [] := rr_none WW_none _
  have e4 : db (cvr [] []) 10080 = 0 := db_none (fun m => rfl) _
  rw [e1] at a1
  rw [e3] at a3 a5
  rw [e4] at a4
  have a3' : s_X6_stretches M2 1 0 = some (0, 0, M3) := a3
  have a4' : s_X6_overlap M3 1 0 = some (0, 0, M4) := a4
  have a5' : s_X6_longestStretch M4 1 0 = some (0, 0, M5) := a5
  unfold s_L_isEmpty
  rw [a1, Option.bind_some, if_neg (not_not_intro rfl), if_pos rfl]
  dsimp only
  rw [a2, Option.bind_some, if_neg (not_not_intro rfl), if_pos rfl]
  dsimp only
  rw [a3', Option.bind_some, if_neg (not_not_intro rfl), if_pos rfl]
  dsimp only
  rw [a4', Option.bind_some, if_neg (not_not_intro rfl), if_pos rfl]
  dsimp only
  rw [a5', Option.bind_some, if_neg (not_not_intro rfl), if_pos rfl]
  dsimp only
  rw [a6, Option.bind_some, if_neg (not_not_intro rfl), if_pos rfl]
end

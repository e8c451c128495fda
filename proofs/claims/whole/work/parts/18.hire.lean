/-! hire: the world grows by seven cells -/
def QcH (Y : Lx) (A : Nat → Prop) (o : Nat → Nat) (hn : Nat) (M : Mem) (G : Mel) (rv : Option Value) : Array Value → State → Outcome → State → Prop := fun _ st oc t => oc = .returned rv ∧ (∃ o' : Nat → Nat, EndW Y A o' (hn + 1) M G t ∧ ∀ k, k < 46 + 7 * hn → o' k = o k) ∧ va_F A st t
def MIH (Y : Lx) (y : MethodName) (c0 : Cond) (fr lc mc ms : Nat) (av : List Value) (o : Nat → Nat) (hn : Nat) (M : Mem) (G : Mel) (rv : Option Value) (M' : Mem) (G' : Mel) : Prop :=
  Y.1.stackTraces = false → ∀ sz : Nat, vx_Met Y.1 y (c0 :: BG) { frames := fr, cells := mc, slots := ms, locals := lc } (va_Pc av (PreM Y o hn M G sz)) (QcH Y (va_A (Wd Y.2.2.2 o hn M G) sz) o hn M' G' rv) (fun _ _ _ => False) mc ms (va_A (Wd Y.2.2.2 o hn M G) sz)
def CxH (X : Cx) (mc ms : Nat) (o : Nat → Nat) (hn : Nat) (M : Mem) (G : Mel) (rv : Option Value) : Prop :=
  match X with
  | (Y, _, _, _, s, _, args, below, _, _, Q, A) => Q = vx_MQ below (QcH Y A o hn M G rv) (fun _ _ _ => False) args s mc ms A
theorem MIH.of {Y : Lx} {y : MethodName} {bytes : ByteArray} {maxL : Nat} {ret : Option FieldType} {fr lc mc ms : Nat} {av : List Value} {o : Nat → Nat} {hn : Nat} {M M' : Mem} {G G' : Mel} {rv : Option Value} (hy : plainName y.cls = true) (hlen : (lg_sl av).length ≤ maxL)
    (body : ∀ X : Cx, X.1 = Y → CxOK X y.cls bytes maxL fr lc mc ms ret → CxH X mc ms o hn M' G' rv → WM X o hn M G 0 0 0 maxL (lv_args 0 av) []) : MIH Y y (.code y bytes maxL ret) fr lc mc ms av o hn M G rv M' G' := by
  intro htr sz
  refine vx_ofW (cc := bytes) (maxL := maxL) (ret := ret) hy rfl ?_
  intro p e s m args below meth c s₁ B hml hno hv
  obtain ⟨rfl, hsz, hP, hK, hD0, hMF⟩ := hv
  subst hsz
  have hts := atoms_spec (ws := .code y bytes maxL ret :: BG) B.pre
  have key := body (Y, p, e, { frames := fr, cells := mc, slots := ms, locals := lc }, s, m, av.toArray, below, meth, c, _, va_A (Wd Y.2.2.2 o hn M G) s.heap.size) rfl ⟨rfl, B.exec, B.bytes, hml, findClass_of_methodNamed B.named, fun w h => hts w (List.mem_cons_of_mem _ h), hK, fun q h => Or.inr h, hMF, B.returns, B.notSynchronized, htr⟩ rfl
  rw [lg_entry_eq]
  exact key s.heap [] _ ⟨hP, hD0.self, va_S.rf⟩ (lv_entry av hlen)
theorem MIH.ofW {Y : Lx} {y : MethodName} {bytes : ByteArray} {maxL : Nat} {ret : Option FieldType} {hh : List (Nat × Nat × Nat × Nat)} {fr lc mc ms : Nat} {av : List Value} {o : Nat → Nat} {hn : Nat} {M M' : Mem} {G G' : Mel} {rv : Option Value} (hy : plainName y.cls = true) (hlen : (lg_sl av).length ≤ maxL)
    (body : ∀ X : Cx, X.1 = Y → CxOK X y.cls bytes maxL fr lc mc ms ret → CxH X mc ms o hn M' G' rv → WM X o hn M G 0 0 0 maxL (lv_args 0 av) []) : MIH Y y (.codeWith y bytes maxL ret hh) fr lc mc ms av o hn M G rv M' G' := by
  intro htr sz
  refine vx_ofWH (cc := bytes) (maxL := maxL) (ret := ret) hy rfl ?_
  intro p e s m args below meth c s₁ B hml hv
  obtain ⟨rfl, hsz, hP, hK, hD0, hMF⟩ := hv
  subst hsz
  have hts := atoms_spec (ws := .codeWith y bytes maxL ret hh :: BG) B.pre
  have key := body (Y, p, e, { frames := fr, cells := mc, slots := ms, locals := lc }, s, m, av.toArray, below, meth, c, _, va_A (Wd Y.2.2.2 o hn M G) s.heap.size) rfl ⟨rfl, B.exec, B.bytes, hml, findClass_of_methodNamed B.named, fun w h => hts w (List.mem_cons_of_mem _ h), hK, fun q h => Or.inr h, hMF, B.returns, B.notSynchronized, htr⟩ rfl
  rw [lg_entry_eq]
  exact key s.heap [] _ ⟨hP, hD0.self, va_S.rf⟩ (lv_entry av hlen)
theorem va_nd_of : ∀ (l : List Nat), l.Nodup → va_nd l = true
  | [], _ => rfl
  | a :: l, h => by
    rw [List.nodup_cons] at h
    simp [va_nd, h.1, va_nd_of l h.2]
theorem wd_range {ac : Nat → ClassId} {o : Nat → Nat} {hn : Nat} {M : Mem} {G : Mel} (x : va_W) : (List.range (46 + 7 * hn)).map (fun i => (Wd ac o hn M G ++ x)[i]?) = (Wd ac o hn M G).map some := by
  apply List.ext_getElem?
  intro i
  rw [List.getElem?_map, List.getElem?_map]
  by_cases h : i < 46 + 7 * hn
  · rw [List.getElem?_range h]
    show some ((Wd ac o hn M G ++ x)[i]?) = _
    rw [List.getElem?_append_left (by rw [wd_len]; exact h), wd_at h rfl]
    rfl
  · rw [List.getElem?_eq_none (by rw [List.length_range]; omega), List.getElem?_eq_none (by rw [wd_len]; omega)]
    rfl
theorem wd_app {ac : Nat → ClassId} {o : Nat → Nat} {hn : Nat} {M : Mem} {G : Mel} (x : va_W) (j : Nat) : (Wd ac o hn M G ++ x)[46 + 7 * hn + j]? = x[j]? := by
  rw [List.getElem?_append_right (by rw [wd_len]; omega), wd_len]
  congr 1
  omega
/-- the addresses behind hire -/
def hO (o : Nat → Nat) (n q : Nat) (q' : Nat → Nat) : Nat → Nat := fun k => if k < n then o k else if k = n then q else q' (k - n - 1)
/-- the new employee's values -/
def hM (M : Mem) (n : Nat) (x : Int32) : Mem := fun k => if k < n then M k else if k = n then (fun j => if j = 0 then x else 0) else fun _ => 0
def hG (G : Mel) (n : Nat) : Mel := fun k => if k < n then G k else fun _ => 0
theorem ob_same {ac : Nat → ClassId} {o o' : Nat → Nat} {hn hn' k : Nat} (f : Nat → Int32) (g : Nat → Int64) (hk : k < 46 + 7 * hn) (h28 : k ≠ 28) (h29 : k ≠ 29) (ho : ∀ j, j < 46 + 7 * hn → o' j = o j) : ob ac o' hn' k f g = ob ac o hn k f g := by
  have hl : ∀ j, j < 46 → o' j = o j := fun j hj => ho j (by omega)
  by_cases h : k < 46
  · have hc : k = 0 ∨ k = 1 ∨ k = 2 ∨ k = 3 ∨ k = 4 ∨ k = 5 ∨ k = 6 ∨ k = 7 ∨ k = 8 ∨ k = 9 ∨ k = 10 ∨ k = 11 ∨ k = 12 ∨ k = 13 ∨ k = 14 ∨ k = 15 ∨ k = 16 ∨ k = 17 ∨ k = 18 ∨ k = 19 ∨ k = 20 ∨ k = 21 ∨ k = 22 ∨ k = 23 ∨ k = 24 ∨ k = 25 ∨ k = 26 ∨ k = 27 ∨ k = 30 ∨ k = 31 ∨ k = 32 ∨ k = 33 ∨ k = 34 ∨ k = 35 ∨ k = 36 ∨ k = 37 ∨ k = 38 ∨ k = 39 ∨ k = 40 ∨ k = 41 ∨ k = 42 ∨ k = 43 ∨ k = 44 ∨ k = 45 := by omega
    rcases hc with rfl | rfl | rfl | rfl | rfl | rfl | rfl | rfl | rfl | rfl | rfl | rfl | rfl | rfl | rfl | rfl | rfl | rfl | rfl | rfl | rfl | rfl | rfl | rfl | rfl | rfl | rfl | rfl | rfl | rfl | rfl | rfl | rfl | rfl | rfl | rfl | rfl | rfl | rfl | rfl | rfl | rfl | rfl | rfl <;> first | rfl | simp [ob, obM, obT, hl]
  · rw [ob_big f g (by omega), ob_big f g (by omega)]
    by_cases h0 : (k - 46) % 7 = 0
    · rw [if_pos h0, if_pos h0]
      simp only [obE, ho (k + 1) (by omega), ho (k + 3) (by omega), ho (k + 5) (by omega)]
    · rw [if_neg h0, if_neg h0]
      by_cases h1 : (k - 46) % 7 = 1 ∨ (k - 46) % 7 = 3 ∨ (k - 46) % 7 = 5
      · rw [if_pos h1, if_pos h1]
        simp only [obT, ho (k + 1) (by omega)]
      · rw [if_neg h1, if_neg h1]
/-- the seven cells of a new employee -/
def hW (ac : Nat → ClassId) (q : Nat) (q' : Nat → Nat) (x : Int32) : va_W := [(q, .inr (0, [.int x, .int 0, .long 0, .ref (q' 0), .ref (q' 2), .ref (q' 4)])), ((q' 0), .inr (4, [.int 2, .ref (q' 1), .int 0])), ((q' 1), .inl (ac 0, 80, .inl (fun _ => 0))), ((q' 2), .inr (4, [.int 2, .ref (q' 3), .int 0])), ((q' 3), .inl (ac 0, 40, .inl (fun _ => 0))), ((q' 4), .inr (4, [.int 2, .ref (q' 5), .int 0])), ((q' 5), .inl (ac 0, 40, .inl (fun _ => 0)))]
theorem hire_world {ac : Nat → ClassId} {o : Nat → Nat} {hn : Nat} {M : Mem} {G : Mel} {q : Nat} {q' : Nat → Nat} {x : Int32} (hn6 : hn < 6) :
    (((Wd ac o hn M G ++ hW ac q q' x).set 29 (o 29, .inl (ac 3, 6, .inr (.inr (.inr (.inr (va_up (fun j => if j < hn then some (o (46 + 7 * j)) else none) hn (some q)))))))).set 28 (o 28, .inr (6, [.ref (o 29), .int (nI hn + 1), .ref (o 30), .ref (o 33), .ref (o 38), .ref (o 43)])))
      = Wd ac (hO o (46 + 7 * hn) q q') (hn + 1) (hM M (46 + 7 * hn) x) (hG G (46 + 7 * hn)) := by
  obtain ⟨n, hnn⟩ : ∃ n, n = 46 + 7 * hn := ⟨_, rfl⟩
  have ho : ∀ j, j < 46 + 7 * hn → hO o (46 + 7 * hn) q q' j = o j := fun j hj => if_pos hj
  have hlw : (hW ac q q' x).length = 7 := rfl
  apply List.ext_getElem?
  intro i
  by_cases hi : i < 46 + 7 * hn
  · rw [wd_at (M := hM M (46 + 7 * hn) x) (by omega) rfl, ho i hi]
    have hMi : hM M (46 + 7 * hn) x i = M i := if_pos hi
    have hGi : hG G (46 + 7 * hn) i = G i := if_pos hi
    rw [hMi, hGi]
    by_cases h28 : i = 28
    · subst h28
      rw [List.getElem?_set_self (by rw [List.length_set, List.length_append, wd_len]; omega)]
      congr 2
      show _ = obX ac (hO o (46 + 7 * hn) q q') (hn + 1)
      simp only [obX, ho 29 (by omega), ho 30 (by omega), ho 33 (by omega), ho 38 (by omega), ho 43 (by omega), nI_succ]
    · rw [List.getElem?_set_ne (Ne.symm h28)]
      by_cases h29 : i = 29
      · subst h29
        rw [List.getElem?_set_self (by rw [List.length_append, wd_len]; omega)]
        congr 2
        show _ = obS ac (hO o (46 + 7 * hn) q q') (hn + 1)
        unfold obS
        congr 7
        funext j
        by_cases hj : j = hn
        · subst hj
          simp [va_up, hO]
        · by_cases hj2 : j < hn
          · simp [va_up, hj, hj2, Nat.lt_succ_of_lt hj2, ho (46 + 7 * j) (by omega)]
          · have hj3 : ¬ j < hn + 1 := by omega
            simp [va_up, hj, hj2, hj3]
      · rw [List.getElem?_set_ne (Ne.symm h29), List.getElem?_append_left (by rw [wd_len]; exact hi), wd_at hi rfl, ob_same _ _ hi h28 h29 ho]
  · by_cases hi2 : i < 46 + 7 * hn + 7
    · rw [List.getElem?_set_ne (by omega), List.getElem?_set_ne (by omega), wd_at (M := hM M (46 + 7 * hn) x) (by omega) rfl]
      obtain ⟨t, ht⟩ : ∃ t, i = 46 + 7 * hn + t := ⟨i - (46 + 7 * hn), by omega⟩
      subst ht
      rw [wd_app, ob_big _ _ (by omega)]
      have hc : t = 0 ∨ t = 1 ∨ t = 2 ∨ t = 3 ∨ t = 4 ∨ t = 5 ∨ t = 6 := by omega
      have hM0 : hM M (46 + 7 * hn) x (46 + 7 * hn) = fun j => if j = 0 then x else 0 := by simp [hM]
      have hM1 : ∀ t, 0 < t → hM M (46 + 7 * hn) x (46 + 7 * hn + t) = fun _ => 0 := fun t h => by
        have e1 : ¬ (46 + 7 * hn + t < 46 + 7 * hn) := by omega
        have e2 : ¬ (46 + 7 * hn + t = 46 + 7 * hn) := by omega
        show (if _ then _ else if _ then _ else _) = _
        rw [if_neg e1, if_neg e2]
      have hG0 : ∀ t, hG G (46 + 7 * hn) (46 + 7 * hn + t) = fun _ => 0 := fun t => if_neg (by omega)
      have hO0 : hO o (46 + 7 * hn) q q' (46 + 7 * hn) = q := by simp [hO]
      have hO1 : ∀ t, hO o (46 + 7 * hn) q q' (46 + 7 * hn + (t + 1)) = q' t := fun t => by
        have e1 : ¬ (46 + 7 * hn + (t + 1) < 46 + 7 * hn) := by omega
        have e2 : ¬ (46 + 7 * hn + (t + 1) = 46 + 7 * hn) := by omega
        have e3 : 46 + 7 * hn + (t + 1) - (46 + 7 * hn) - 1 = t := by omega
        show (if _ then _ else if _ then _ else _) = _
        rw [if_neg e1, if_neg e2, e3]
      have hm : ∀ t, t < 7 → (46 + 7 * hn + t - 46) % 7 = t := fun t h => by omega
      have htw : ∀ t, 0 < t → tw (46 + 7 * hn + t) = 2 := fun t h => by
        unfold tw
        rw [if_neg (by omega), if_neg (by omega), if_neg (by omega)]
      have htl : ∀ t, tl (46 + 7 * hn + t) = if (46 + 7 * hn + t - 46) % 7 = 1 then 80 else 40 := fun t => by
        unfold tl
        rw [if_neg (by omega), if_neg (by omega), if_neg (by omega), if_neg (by omega), if_neg (by omega), if_neg (by omega)]
      rcases hc with rfl | rfl | rfl | rfl | rfl | rfl | rfl
      · rw [if_pos (hm 0 (by omega))]
        show some (q, _) = some (hO o (46 + 7 * hn) q q' (46 + 7 * hn), _)
        rw [hO0]
        show some (q, (Sum.inr (0, [Value.int x, .int 0, .long 0, .ref (q' 0), .ref (q' 2), .ref (q' 4)]) : va_E)) = some (q, obE ac _ (46 + 7 * hn + 0) _ _)
        rw [hG0 0]
        show _ = some (q, obE ac _ (46 + 7 * hn) (hM M (46 + 7 * hn) x (46 + 7 * hn)) _)
        rw [hM0]
        simp only [obE, show 46 + 7 * hn + 1 = 46 + 7 * hn + (0 + 1) from rfl, show 46 + 7 * hn + 3 = 46 + 7 * hn + (2 + 1) from rfl, show 46 + 7 * hn + 5 = 46 + 7 * hn + (4 + 1) from rfl, hO1]
        rfl
      · rw [if_neg (by rw [hm 1 (by omega)]; decide), if_pos (Or.inl (hm 1 (by omega))), hM1 1 (by omega), hO1 0]
        simp only [obT, htw 1 (by omega), show 46 + 7 * hn + 1 + 1 = 46 + 7 * hn + (1 + 1) from rfl, hO1]
        rfl
      · rw [if_neg (by rw [hm 2 (by omega)]; decide), if_neg (by rw [hm 2 (by omega)]; decide), hM1 2 (by omega), hO1 1]
        simp only [obC, show 46 + 7 * hn + 2 - 1 = 46 + 7 * hn + 1 by omega, htl, hm 1 (by omega)]
        rfl
      · rw [if_neg (by rw [hm 3 (by omega)]; decide), if_pos (Or.inr (Or.inl (hm 3 (by omega)))), hM1 3 (by omega), hO1 2]
        simp only [obT, htw 3 (by omega), show 46 + 7 * hn + 3 + 1 = 46 + 7 * hn + (3 + 1) from rfl, hO1]
        rfl
      · rw [if_neg (by rw [hm 4 (by omega)]; decide), if_neg (by rw [hm 4 (by omega)]; decide), hM1 4 (by omega), hO1 3]
        simp only [obC, show 46 + 7 * hn + 4 - 1 = 46 + 7 * hn + 3 by omega, htl, hm 3 (by omega)]
        rfl
      · rw [if_neg (by rw [hm 5 (by omega)]; decide), if_pos (Or.inr (Or.inr (hm 5 (by omega)))), hM1 5 (by omega), hO1 4]
        simp only [obT, htw 5 (by omega), show 46 + 7 * hn + 5 + 1 = 46 + 7 * hn + (5 + 1) from rfl, hO1]
        rfl
      · rw [if_neg (by rw [hm 6 (by omega)]; decide), if_neg (by rw [hm 6 (by omega)]; decide), hM1 6 (by omega), hO1 5]
        simp only [obC, show 46 + 7 * hn + 6 - 1 = 46 + 7 * hn + 5 by omega, htl, hm 5 (by omega)]
        rfl
    · rw [List.getElem?_eq_none (by rw [List.length_set, List.length_set, List.length_append, wd_len, hlw]; omega), List.getElem?_eq_none (by rw [wd_len]; omega)]

theorem clamp_nI {n : Nat} (h : n < 2 ^ 31) : (nI n).toNatClampNeg = n := nI_clamp h
section HireRows
variable {X : Cx} {own : String} {cc : ByteArray} {nL fr lc mc ms : Nat} {rt : Option FieldType} {w : va_W} {a b pc : Nat} {lo : List (Nat × Value)} {st : List Value}
theorem tq_astq (hX : CxOK X own cc nL fr lc mc ms rt) {i : Int32} {q0 v : Nat} {vs : List Value} {f : Nat → Option Nat} {w' : va_W} (i0 ik : Nat) (he : w[i0]? = some (q0, .inl (X.1.2.2.2 3, 6, .inr (.inr (.inr (.inr f)))))) (hv : w[ik]? = some (v, .inr (0, vs))) (hw' : w.set i0 (q0, .inl (X.1.2.2.2 3, 6, .inr (.inr (.inr (.inr (va_up f i.toNatClampNeg (some v))))))) = w') (hi : vp_in i 6) (d : decode cc pc = .ok (.aastore, 1)) (k : WMl X w' a b (pc + 1) nL lo st) : WMl X w a b pc nL lo (.ref v :: .int i :: .ref q0 :: st) := by
  obtain ⟨⟨l, dC, dI, ac⟩, p, e, R, s, m, args, below, meth, c, Q, A⟩ := X
  obtain ⟨hR, hx, hb, hml, hown, hts, hK, hA, hMF, hrt, hlk, htr⟩ := hX
  intro H locs ls hw hl
  subst hw'
  exact va_astq hx hb hK hw.1 hw.2.1 hw.2.2 i0 3 ik 0 (r := (RX0, TX0, 6)) he rfl hv rfl hi d (fun H1 locs1 hP hD hS => k H1 locs1 ls ⟨hP, hD, hS⟩ hl)
theorem q_hret {o : Nat → Nat} {hn : Nat} {M : Mem} {G : Mel} {o' : Nat → Nat} (hX : CxOK X own cc nL fr lc mc ms (some .int)) {v : Int32} (hR : CxH X mc ms o hn M G (some (.int v))) (ho : ∀ k, k < 46 + 7 * hn → o' k = o k) (h1 : a ≤ mc) (h2 : b ≤ ms) (d : decode cc pc = .ok (.ireturn, 1)) : WM X o' (hn + 1) M G a b pc nL lo [.int v] := by
  refine q_widen h1 h2 ?_
  obtain ⟨⟨l, dC, dI, ac⟩, p, e, R, s, m, args, below, meth, c, Q, A⟩ := X
  obtain ⟨hRm, hx, hb, hml, hown, hts, hK, hA, hMF, hrt, hlk, htr⟩ := hX
  cases hR
  intro H locs ls hw hl
  exact vx_ret (W.iret (v := v) hx hb hrt (fun t ht hW => ⟨rfl, ⟨o', ⟨by rw [ht]; exact hw.1, hK.moved hW.alike, hw.2.1⟩, ho⟩, hw.2.2.F ht⟩) hw.2.2.2.2 d hlk)
end HireRows
set_option maxHeartbeats 4000000 in
theorem c_X6_hire_ok {Y : Lx} {o : Nat → Nat} {hn : Nat} {M : Mem} {G : Mel} {x1 : Int32} (h1 : s_X6_requireWithin x1 1 100000 = some 0) (h6 : hn < 6) : MIH Y yX6_hire (.code yX6_hire cX6_hire 3 (some .int)) 7 112 9 187 [.ref (o 28), .int x1] o hn M G (some (.int (nI hn))) (hM M (46 + 7 * hn) x1) (hG G (46 + 7 * hn)) := by
  refine MIH.of (by decide +kernel) (Nat.le_of_ble_eq_true rfl) (fun X hY hX hR => ?_)
  change CxOK X RX6 cX6_hire 3 7 112 9 187 (some .int) at hX
  show WM X o hn M G 0 0 0 3 [(0, .ref (o 28)), (1, .int x1)] []
  refine q_iload_n (pc := 0) hX 1 rfl rfl dX6_hire_0 ?_
  refine q_iconst (pc := 1) hX (1) rfl dX6_hire_1 ?_
  refine q_ldc (pc := 2) hX kw_119 dX6_hire_2 ?_
  refine q_callS (pc := 4) (As := [.int x1, .int 1, .int 100000]) (rest := []) (rv := none) (st' := []) hX (MI_0 rfl (c_X6_requireWithin h1)) (sl_X6_46) pd_yX6_requireWithin rfl ⟨by decide, by decide⟩ ⟨by decide, by decide⟩ rfl (Nat.le_of_ble_eq_true rfl) rfl dX6_hire_4 ?_
  refine q_aload_n (pc := 7) hX 0 rfl rfl dX6_hire_7 ?_
  refine q_get (pc := 8) (id := 28) (ci := 6) (N := 6) (T := TX6) (C := RX6) hX 1 (lt46 (by decide)) rfl rfl in_X6 (by decide) (Or.inl kw_15) rfl dX6_hire_8 ?_
  refine q_istore_n (pc := 11) (lo' := [(0, .ref (o 28)), (1, .int x1), (2, .int (nI hn))]) hX [1, 2, 0] rfl (by decide) rfl dX6_hire_11 ?_
  refine q_iload_n (pc := 12) hX 2 rfl rfl dX6_hire_12 ?_
  refine q_if_lt (pc := 13) hX 25 (by decide) dX6_hire_13 (fun c => absurd c (nI_pos (by omega))) (fun c => ?_)
  refine q_iload_n (pc := 16) hX 2 rfl rfl dX6_hire_16 ?_
  refine q_aload_n (pc := 17) hX 0 rfl rfl dX6_hire_17 ?_
  refine q_get (pc := 18) (id := 28) (ci := 6) (N := 6) (T := TX6) (C := RX6) hX 0 (lt46 (by decide)) rfl rfl in_X6 (by decide) (Or.inl kw_14) rfl dX6_hire_18 ?_
  refine r_alenS (pc := 21) hX dX6_hire_21 ?_
  refine q_icmp_lt (pc := 22) hX 35 (by decide) dX6_hire_22 (fun c => ?_) (fun c => absurd (show nI hn < nI 6 from nI_lt h6 (by decide)) c)
  refine q_aload_n (pc := 35) hX 0 rfl rfl dX6_hire_35 ?_
  refine q_get (pc := 36) (id := 28) (ci := 6) (N := 6) (T := TX6) (C := RX6) hX 0 (lt46 (by decide)) rfl rfl in_X6 (by decide) (Or.inl kw_14) rfl dX6_hire_36 ?_
  refine q_iload_n (pc := 39) hX 2 rfl rfl dX6_hire_39 ?_
  refine WMl_of ?_
  refine tq_new (pc := 40) (ci := 0) (fs := [.int 0, .int 0, .long 0, .null, .null, .null]) (C := RX0) (T := TX0) (N := 6) (ty := tyX0) hX in_X0 tyX0_ok kw_13 kw_120 kw_121 rfl (by decide +kernel) (Nat.le_of_ble_eq_true rfl) (Nat.le_of_ble_eq_true rfl) dX6_hire_40 (fun q => ?_)
  refine tq_dup (pc := 43) hX rfl dX6_hire_43 ?_
  refine tq_iload_n (pc := 44) hX 1 rfl rfl dX6_hire_44 ?_
  refine tq_ctor (pc := 45) (As := [.int x1]) (wr := Wd X.1.2.2.2 o hn M G) (sts := [.int x1, .ref q, .ref q, .int (nI hn), .ref (o 29)]) (st := [.ref q, .int (nI hn), .ref (o 29)]) hX (c_X0_init (h0 := q) (x1 := x1)) [46 + 7 * hn + 0] (List.range (46 + 7 * hn)) (by simp only [List.map_cons, List.map_nil, wd_app]; rfl) (wd_range _) rfl (va_nd_of _ List.nodup_range) (fun i hi => by have := List.mem_range.mp hi; simp; omega) kw_127 kw_128 kw_121 kw_129 rfl ⟨by decide +kernel, by decide +kernel⟩ pd_yX0_init rfl ⟨by decide, by decide⟩ ⟨Nat.le_of_ble_eq_true rfl, Nat.le_of_ble_eq_true rfl⟩ rfl (Nat.le_of_ble_eq_true rfl) dX6_hire_45 (fun q' => ?_)
  change WMl X (Wd X.1.2.2.2 o hn M G ++ hW X.1.2.2.2 q q' x1) _ _ _ _ _ _
  refine tq_astq (pc := 48) (f := fun j => if j < hn then some (o (46 + 7 * j)) else none) (vs := [.int x1, .int 0, .long 0, .ref (q' 0), .ref (q' 2), .ref (q' 4)]) hX 29 (46 + 7 * hn + 0) (by rw [List.getElem?_append_left (by rw [wd_len]; omega)]; exact wd_at (by omega) rfl) (by rw [wd_app]; rfl) rfl (vp_in_nI h6 (by decide)) dX6_hire_48 ?_
  refine tq_aload_n (pc := 49) hX 0 rfl rfl dX6_hire_49 ?_
  refine tq_iload_n (pc := 50) hX 2 rfl rfl dX6_hire_50 ?_
  refine tq_iconst (pc := 51) hX (1) rfl dX6_hire_51 ?_
  refine tq_iadd (pc := 52) hX dX6_hire_52 ?_
  refine tq_put (pc := 53) (ci := 6) (N := 6) (T := TX6) (C := RX6) (fs := [.ref (o 29), .int (nI hn), .ref (o 30), .ref (o 33), .ref (o 38), .ref (o 43)]) (ty := .int) (ty0 := tyX6) (w' := Wd X.1.2.2.2 (hO o (46 + 7 * hn) q q') (hn + 1) (hM M (46 + 7 * hn) x1) (hG G (46 + 7 * hn))) hX 28 1 (by rw [List.getElem?_set_ne (by decide), List.getElem?_append_left (by rw [wd_len]; omega)]; exact wd_at (by omega) rfl) (by rw [clamp_nI (by omega)]; exact hire_world h6) rfl in_X6 tyX6_ok nmX6 (by decide) kw_15 rfl (by decide +kernel) rfl rfl (Nat.le_of_ble_eq_true rfl) dX6_hire_53 ?_
  refine WM_of ?_
  refine q_iload_n (pc := 56) hX 2 rfl rfl dX6_hire_56 ?_
  exact q_hret hX hR (fun k hk => if_pos hk) (Nat.le_of_ble_eq_true rfl) (Nat.le_of_ble_eq_true rfl) dX6_hire_57

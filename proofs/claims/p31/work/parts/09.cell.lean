set_option maxHeartbeats 4000000 in
theorem c_L_cell {Y : Lx} {o : Nat → Nat} {hn : Nat} {M : Mem} {G : Mel} {q L : Nat} {xs : Nat → Int32} {k rr : Int32} (hE : s_L_cell L xs k = some rr) : MS Y yL_cell cL_cell 2 (some .int) 0 0 [.ref q, .int k] o hn M G q L xs (.inl (some (.int rr))) := by
  refine MS.of (by decide +kernel) (Nat.le_of_ble_eq_true rfl) (fun X hY hX hR hS => ?_)
  change CxOK X RL cL_cell 2 0 0 0 0 (some .int) at hX
  show WM X o hn M G 0 0 0 2 [(0, .ref q), (1, .int k)] []
  unfold s_L_cell at hE
  refine q_iload_n (pc := 0) hX 1 rfl rfl dL_cell_0 ?_
  refine q_aload_n (pc := 1) hX 0 rfl rfl dL_cell_1 ?_
  refine r_slen (pc := 2) hX hS dL_cell_2 ?_
  refine q_icmp_ge (pc := 3) hX 12 (by decide) dL_cell_3 (fun c => ?_) (fun c => ?_)
  · rw [if_neg (Int32.not_lt.mpr c)] at hE
    cases hE
    refine q_sipush (pc := 12) hX (7919) (by decide) dL_cell_12 ?_
    refine q_iload_n (pc := 15) hX 1 rfl rfl dL_cell_15 ?_
    refine q_iconst (pc := 16) hX (3) rfl dL_cell_16 ?_
    refine q_iadd (pc := 17) hX dL_cell_17 ?_
    refine q_imul (pc := 18) hX dL_cell_18 ?_
    refine q_iload_n (pc := 19) hX 1 rfl rfl dL_cell_19 ?_
    refine q_bipush (pc := 20) hX (11) (by decide) dL_cell_20 ?_
    refine q_iadd (pc := 22) hX dL_cell_22 ?_
    refine q_imul (pc := 23) hX dL_cell_23 ?_
    exact q_iret hX hR (by decide) (by decide) dL_cell_24
  · rw [if_pos (Int32.not_le.mp c)] at hE
    by_cases d : k < 0 ∨ L ≤ k.toNatClampNeg
    · rw [if_pos d] at hE; cases hE
    · rw [if_neg d] at hE
      cases hE
      refine q_aload_n (pc := 6) hX 0 rfl rfl dL_cell_6 ?_
      refine q_iload_n (pc := 7) hX 1 rfl rfl dL_cell_7 ?_
      refine r_sld (pc := 8) hX hS rfl d dL_cell_8 ?_
      refine q_goto (pc := 9) hX 24 (by decide) dL_cell_9 ?_
      exact q_iret hX hR (by decide) (by decide) dL_cell_24
section
variable {X : Cx} {cc : ByteArray} {nL fr lc mc0 ms0 : Nat} {rt : Option FieldType} {o : Nat → Nat} {hn : Nat} {M : Mem} {G : Mel} {a b pc : Nat} {lo : List (Nat × Value)} {st : List Value}
/-- a call of the law's 'cell' -/
theorem q_cell (hX : CxOK X RL cc nL fr lc mc0 ms0 rt) {q L : Nat} {xs : Nat → Int32} (hS : ScrOK X q L xs) {k v : Int32} (hW : s_L_cell L xs k = some v) (hfr : 1 ≤ fr) (hlc : 21 ≤ lc) (hca : a ≤ mc0) (hcb : b ≤ ms0) (hcat : (st.map fun v => v.category).sum ≤ 8) (d : decode cc pc = .ok (.invokestatic 54, 3))
    (kk : WM X o hn M G a b (pc + 3) nL lo (.int v :: st)) : WM X o hn M G a b pc nL lo (.int k :: .ref q :: st) := by
  have hv : SL RL 54 yL_cell cL_cell 2 (some .int) := sl_L_54
  obtain ⟨⟨l, dC, dI, ac⟩, p, e, R, s, m, args, below, meth, c, Q, A⟩ := X
  obtain ⟨hRm, hx, hb, hml, hown, hts, hK, hA, hMF, hrt, hlk, htr⟩ := hX
  obtain ⟨h1, h2, h3⟩ := hS
  intro H locs ls hw hl
  have hf := va_freeAll hw.2.1 hw.2.2 hA
  have hHq : H[q]? = s.heap[q]? := hw.2.2.2.1 q h2 h3
  have hr : vx_Run p l e R s m args below meth c H locs a b 0 0 (F0 m pc ls (.int k :: .ref q :: st)) st (QcM (l, dC, dI, ac) (va_A (Wd ac o hn M G) H.size) o hn M G (.inl (some (.int v))) [Value.ref q, .int k].toArray) (XcM (l, dC, dI, ac) (va_A (Wd ac o hn M G) H.size) o hn M G (.inl (some (.int v)))) (va_A (Wd ac o hn M G) H.size) := vx_runS (As := [.ref q, .int k]) (rest := st) ⟨hx, hb, hml, hown, hts⟩ (c_L_cell (Y := (l, dC, dI, ac)) (o := o) (hn := hn) (M := M) (G := G) (q := q) hW htr H.size) (cwS 2 hts (good_S hv) rfl rfl rfl ⟨hv.2.2.2.2.2.2, hv.2.2.2.2.1, hv.2.2.2.2.2.1, pd_yL_cell⟩ (by rw [hRm]; exact ⟨hfr, hlc⟩)) ⟨PreK.blind _ _ _ _ _ _ _ _ _ _, fun U hU hW => ⟨rfl, PreM.at (Y := (l, dC, dI, ac)) hw hK hA hMF hU hW, by rw [hU]; exact (h1.kept hHq).moved hW.alike, by rw [hU]; exact Nat.lt_of_lt_of_le h2 hw.2.2.1, fun z => h3 (hf q z)⟩⟩ rfl rfl hl.1 rfl (lv_room hcat) d (by rw [hRm]; exact ⟨hca, hcb⟩)
  exact q_ok (Y := (l, dC, dI, ac)) hA hw hl hr rfl kk
end

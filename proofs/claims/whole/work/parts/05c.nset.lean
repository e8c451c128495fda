section EndN
variable {X : Cx} {own : String} {cc : ByteArray} {nL fr lc mc ms : Nat} {rt : Option FieldType} {o : Nat → Nat} {hn : Nat} {M : Mem} {G : Mel} {a b pc : Nat} {lo : List (Nat × Value)} {st : List Value}
/-- .. of a NoSuchElementException -/
theorem q_throwN (hX : CxOK X RX6 cc nL fr lc mc ms rt) (hE : CxE X []) {E text : String} {ik is ic : Nat} (hR : CxR X mc ms o hn M G (.inr E))
    (hk : Cond.classLink RX6 ik E ∈ BG) (hini : Cond.initialized E ∈ BG) (hstr : (is, text) ∈ strL) (hfit : Bundle.fit E = true)
    (hat : ∀ w ∈ (nse_at RX6 ic E 13 prog_19_method_4_code "java/lang/RuntimeException" ["java/lang/Exception"]).filter vx_no, w ∈ lw_tbl ∧ (goodWord w = true ∨ xtra w = true)) (hot : ∀ w ∈ (nse_at RX6 ic E 13 prog_19_method_4_code "java/lang/RuntimeException" ["java/lang/Exception"]).filter vx_no, vx_ot w = true)
    (hfr : 5 < fr) (hlc : 90 ≤ lc) (hst : (st.map fun v => v.category).sum ≤ 8) (h1 : a + 1 ≤ mc) (h2 : b + 6 ≤ ms)
    (d0 : decode cc pc = .ok (.new ik, 3)) (d3 : decode cc (pc + 3) = .ok (.dup, 1)) (d4 : decode cc (pc + 4) = .ok (.ldc is, 2)) (d6 : decode cc (pc + 6) = .ok (.invokespecial ic, 3)) (d9 : decode cc (pc + 9) = .ok (.athrow, 1)) : WM X o hn M G a b pc nL lo st := by
  obtain ⟨⟨l, dC, dI, ac⟩, p, e, R, s, m, args, below, meth, c, Q, A⟩ := X
  obtain ⟨hRm, hx, hb, hml, hown, hts, hK, hA, hMF, hrt, hlk, htr⟩ := hX
  cases hR
  intro H locs ls hw hl
  obtain ⟨sa, hsa⟩ := hMF.2.1 _ hstr
  refine nse_throwS (sa := sa) (names := ["java/lang/Exception"]) (Y0 := "java/lang/RuntimeException") (ix := 13) (rx := prog_19_method_4_code) (A := A) hx hb htr (by decide +kernel) (by decide +kernel) (by decide +kernel) (by decide +kernel) hown hfit (by decide +kernel) (by decide +kernel) (hts _ hk) (hts _ hini) hsa (fun w h => ?_) (fun w h => ?_) hMF.2.2.2.1 hMF.2.2.2.2.1 hw.2.2 (by rw [hl.1, hml]) d0 d3 d4 d6 d9 (fun x hx9 => ?_) (by rw [hRm]; exact hfr) (by rw [hRm]; show _ + (13 * 3 + 43) ≤ lc; omega) (by rw [hRm]; exact h1) (by rw [hRm]; exact h2) hlk (fun t hvm hsz hkeep => ⟨rfl, ⟨hw.1.kept (fun k q hq => hkeep _ ((hw.1 k q hq).lt)), hK.moved hvm, hw.2.1⟩, Nat.le_trans hw.2.2.1 hsz, fun q hq1 hq2 => (hkeep q (Nat.lt_of_lt_of_le hq1 hw.2.2.1)).trans (hw.2.2.2.1 q hq1 hq2)⟩) hw.2.2.2.2 h1 h2
  · obtain ⟨g1, g2 | g2⟩ := hat w h
    · exact hts w (List.mem_filter.mpr ⟨g1, g2⟩)
    · exact xtra_use g2 (hMF.1 w g1 g2)
  · rcases List.mem_cons.mp h with rfl | h
    · rfl
    · rcases List.mem_cons.mp h with rfl | h
      · rfl
      · exact hot w h
  · rw [hE] at hx9
    cases hx9
end EndN
theorem at_4 : ∀ w ∈ (nse_at RX6 101 eNSE 13 prog_19_method_4_code "java/lang/RuntimeException" ["java/lang/Exception"]).filter vx_no, w ∈ lw_tbl ∧ (goodWord w = true ∨ xtra w = true) := by decide +kernel
theorem ot_4 : ∀ w ∈ (nse_at RX6 101 eNSE 13 prog_19_method_4_code "java/lang/RuntimeException" ["java/lang/Exception"]).filter vx_no, vx_ot w = true := by decide +kernel

theorem ow_mono (p : Nat → Bool) {a : Nat} : ∀ n, ow p a ≤ ow p (a + n)
  | 0 => Nat.le_refl _
  | n + 1 => by
    have := ow_mono p n (a := a)
    rw [← Nat.add_assoc, ow]
    omega
theorem L_day {p : Nat → Bool} {full : Bool} {d : Nat} (hd : d < 7) {l : List (Nat × Nat)} (hl : l = rr p 10080) (hr : l.length ≤ 160) : ∀ (r fu k T : Nat) (M : Mem), Tl M 34 l → Tq M 36 (qq p full T) → T = max (d * 1440) (min (hdE (l.drop (l.length - k))) ((d + 1) * 1440)) → k + r = l.length → r < fu → ∃ y1 y2 M', L_X1_addPartsOfDay_6 (iI d) (iI (ow p (d * 1440))) (bI (xd full (d * 1440))) fu (iI ((ow p T : Int) - (ow p (d * 1440) : Int))) (iI k) M = some (y1, y2, M') ∧ Tq M' 36 (qq p full ((d + 1) * 1440)) ∧ Fr 36 M M' := by
  have hP : RrP p l 10080 := by rw [hl]; exact rr_P p 10080
  have hO : RrOK l 10080 := by rw [hl]; exact rr_ok p 10080
  intro r
  induction r with
  | zero =>
    intro fu k T M h h2 hT hk hf
    cases fu with
    | zero => omega
    | succ fu =>
      have hk' : k = l.length := by omega
      subst hk'
      rw [Nat.sub_self, List.drop_zero] at hT
      have hg := hP.gap
      have hh := hO.hd
      obtain ⟨n, hn⟩ : ∃ n, (d + 1) * 1440 = T + n := ⟨(d + 1) * 1440 - T, by omega⟩
      have e := qq_no p full n (a := T) (fun m g1 g2 => hg m (by omega) (by omega))
      rw [← hn] at e
      refine ⟨iI ((ow p T : Int) - (ow p (d * 1440) : Int)), iI (l.length : Int), M, ?_, by rw [e]; exact h2, Fr.rf⟩
      rw [L_X1_addPartsOfDay_6, h.size, Option.bind_some, if_pos (by rw [iI_le] <;> omega)]
  | succ r ih =>
    intro fu k T M h h2 hT hk hf
    cases fu with
    | zero => omega
    | succ fu =>
      have hkl : k < l.length := by omega
      have hd' := drop_gx (0, 0) hkl
      have hg0 := h.get0 hkl
      have hg1 := h.get1 hkl
      obtain ⟨T', j1, j2, j3⟩ := hP.drop (l.length - (k + 1)) hO
      rw [hd'] at j2 j3
      generalize gx l (0, 0) k = q at hd' hg0 hg1 j2 j3
      obtain ⟨b, e⟩ := q
      dsimp only at hg0 hg1
      obtain ⟨u1, u2, u3, u4⟩ := j3
      obtain ⟨v1, v2, v3⟩ := j2
      have hgap := v3.gap
      have hhd := u4.hd
      have hE : hdE (l.drop (l.length - (k + 1))) = e := by rw [hd']; rfl
      have hle := ow_le p T
      generalize hEk : hdE (l.drop (l.length - k)) = E at hT hgap hhd u3
      have hEb : E < b ∨ E = 0 := by
        rcases u3 with g | g
        · right; rw [← hEk, g]; rfl
        · left; exact g
      have step : L_X1_addPartsOfDay_6 (iI d) (iI (ow p (d * 1440))) (bI (xd full (d * 1440))) (fu + 1) (iI ((ow p T : Int) - (ow p (d * 1440) : Int))) (iI k) M = (if min e ((d + 1) * 1440) ≤ max b (d * 1440) then some (iI ((ow p T : Int) - (ow p (d * 1440) : Int)), M) else (s_X1_addParts M (iI (max b (d * 1440) : Nat)) (iI (min e ((d + 1) * 1440) : Nat)) (iI ((ow p T : Int) - (ow p (d * 1440) : Int))) (iI (ow p T)) (bI (xd full (d * 1440)))).bind fun r10 => some (iI ((ow p T : Int) - (ow p (d * 1440) : Int) + ((min e ((d + 1) * 1440) : Nat) : Int) - ((max b (d * 1440) : Nat) : Int)), r10)).bind fun p12 => L_X1_addPartsOfDay_6 (iI d) (iI (ow p (d * 1440))) (bI (xd full (d * 1440))) fu p12.1 (iI ((k + 1 : Nat) : Int)) p12.2 := by
        rw [L_X1_addPartsOfDay_6, h.size, Option.bind_some, if_neg (by rw [iI_le] <;> omega), hg0, Option.bind_some, hg1]
        simp only [bnd, Option.bind_some, li_1440, li_1, iI_add, iI_mul]
        rw [iI_mx (by omega) (by omega), iI_mn (by omega) (by omega)]
        have e1 : max (b : Int) ((d : Int) * 1440) = ((max b (d * 1440) : Nat) : Int) := by omega
        have e2 : min (((d : Int) + 1) * 1440) (e : Int) = ((min e ((d + 1) * 1440) : Nat) : Int) := by omega
        have e3 : (ow p (d * 1440) : Int) + ((ow p T : Int) - (ow p (d * 1440) : Int)) = (ow p T : Int) := by omega
        rw [e1, e2, e3]
        by_cases c : min e ((d + 1) * 1440) ≤ max b (d * 1440)
        · rw [if_pos (by rw [iI_le] <;> omega), if_pos c]
          rfl
        · rw [if_neg (by rw [iI_le] <;> omega), if_neg c, iI_sub, iI_add]
          rw [show (ow p T : Int) - (ow p (d * 1440) : Int) + (((min e ((d + 1) * 1440) : Nat) : Int) - ((max b (d * 1440) : Nat) : Int)) = (ow p T : Int) - (ow p (d * 1440) : Int) + ((min e ((d + 1) * 1440) : Nat) : Int) - ((max b (d * 1440) : Nat) : Int) by omega]
          rfl
      rw [step]
      obtain ⟨T2, hT2⟩ : ∃ T2, T2 = max (d * 1440) (min e ((d + 1) * 1440)) := ⟨_, rfl⟩
      have hT2' : T2 = max (d * 1440) (min (hdE (l.drop (l.length - (k + 1)))) ((d + 1) * 1440)) := by rw [hE]; exact hT2
      by_cases c : min e ((d + 1) * 1440) ≤ max b (d * 1440)
      · rw [if_pos c, Option.bind_some]
        obtain ⟨n, hn⟩ : ∃ n, T2 = T + n := ⟨T2 - T, by omega⟩
        have hno : ∀ m, T ≤ m → m < T + n → p m = false := fun m g1 g2 => hgap m (by omega) (by omega)
        have e1 := qq_no p full n hno
        have e2 := ow_no p n hno
        rw [← hn] at e1 e2
        obtain ⟨y1, y2, M', a1, a2, a3⟩ := ih fu (k + 1) T2 M h (by rw [e1]; exact h2) hT2' (by omega) (by omega)
        rw [e2] at a1
        exact ⟨y1, y2, M', a1, a2, a3⟩
      · rw [if_neg c]
        obtain ⟨B, hB⟩ : ∃ B, B = max b (d * 1440) := ⟨_, rfl⟩
        have hT2e : T2 = min e ((d + 1) * 1440) := by omega
        rw [← hB, ← hT2e]
        obtain ⟨n, hn⟩ : ∃ n, B = T + n := ⟨B - T, by omega⟩
        have hno : ∀ m, T ≤ m → m < T + n → p m = false := fun m g1 g2 => hgap m (by omega) (by omega)
        have e1 := qq_no p full n hno
        have e2 := ow_no p n hno
        rw [← hn] at e1 e2
        obtain ⟨j, hj⟩ : ∃ j, B = d * 1440 + j := ⟨B - d * 1440, by omega⟩
        have hod := od_ow p d j (by omega)
        rw [← hj] at hod
        have hx : xd full (d * 1440) = xd full B := xd_day full (d := d) (by omega) (by omega) (by omega) (by omega)
        have hnew : B < T2 → cut p B = true ∨ hdQ (qq p full B) ≠ B ∨ qq p full B = [] := by
          intro _
          by_cases c2 : B = d * 1440
          · left
            simp only [cut, Bool.or_eq_true, decide_eq_true_eq]
            omega
          · right
            have hb0 : p (B - 1) = false := hgap (B - 1) (by omega) (by omega)
            obtain ⟨B', hB'⟩ : ∃ B', B = B' + 1 := ⟨B - 1, by omega⟩
            rw [hB', Nat.add_sub_cancel] at hb0
            have hl0 : ln p B = 0 := by rw [hB', ln, hb0]; rfl
            obtain ⟨w1, w2⟩ := qq_hd p full B
            rcases (rr_ln p B).2 hl0 with g | g | g
            · omega
            · exact Or.inr (w1.mpr g)
            · exact Or.inl (by rw [w2]; omega)
        obtain ⟨M1, a1, a2, a3⟩ := X1_parts (M := M) (full := full) hd (b := B) (e := T2) (by omega) (by omega) (by omega) (fun m g1 g2 => v2 m (by omega) (by omega)) (by rw [← hl]; exact hr) (by rw [e1]; exact h2) hnew
        have eo : (ow p T : Int) - (ow p (d * 1440) : Int) = (od p B : Int) := by rw [← e2]; omega
        have hiv := ow_iv p (a := B) (T2 - B) (fun m g1 g2 => v2 m (by omega) (by omega))
        rw [show B + (T2 - B) = T2 by omega] at hiv
        obtain ⟨y1, y2, M', b1, b2, b3⟩ := ih fu (k + 1) T2 M1 (h.fr a3 (by decide) (by decide) (by decide)) a2 hT2' (by omega) (by omega)
        refine ⟨y1, y2, M', ?_, b2, a3.tr b3⟩
        rw [eo, ← e2, hx, a1, Option.bind_some, Option.bind_some, ← b1, ← hx]
        dsimp only
        congr 2
        omega
theorem X1_day {p : Nat → Bool} {full : Bool} {d : Nat} {M : Mem} (hd : d < 7) (hr : (rr p 10080).length ≤ 160) (h : Tl M 34 (rr p 10080)) (h2 : Tq M 36 (qq p full (d * 1440))) : ∃ M', s_X1_addPartsOfDay M (iI d) (iI (ow p (d * 1440))) (bI (xd full (d * 1440))) = some M' ∧ Tq M' 36 (qq p full ((d + 1) * 1440)) ∧ Fr 36 M M' := by
  obtain ⟨y1, y2, M', a1, a2, a3⟩ := L_day hd rfl hr (rr p 10080).length FU 0 (d * 1440) M h h2 (by
    rw [show (rr p 10080).length - 0 = (rr p 10080).length by omega, List.drop_length]
    show _ = max (d * 1440) (min 0 _)
    omega) (by omega) (by rw [FU_0]; omega)
  refine ⟨M', ?_, a2, a3⟩
  unfold s_X1_addPartsOfDay
  rw [show (ow p (d * 1440) : Int) - (ow p (d * 1440) : Int) = 0 by omega] at a1
  rw [li_0]
  rw [show iI ((0 : Nat) : Int) = iI 0 from rfl] at a1
  rw [a1]
  rfl

theorem L_kind {M0 : Mem} {p : Nat → Bool} {full : Bool} (hK : ∀ m, m < 10080 → M0 22 m = if p m = true then iI 0 else iI (-1)) (q7 : Int32 × Int32) (hq : q7.1 = bI full) : ∀ (r fu m z : Nat) (M : Mem), m + r = 10080 → r < fu → KindI M0 M p full m → (m % 1440 ≠ 0 → z = od p m) → z ≤ 10080 → ∃ y1 y2 y3 M', L_X7_findsKinds_63 q7 fu (iI (ow p m : Nat)) (iI (z : Nat)) (iI m) M = some (y1, y2, y3, M') ∧ KindI M0 M' p full 10080 := by
  intro r
  induction r with
  | zero =>
    intro fu m z M hm hf h hz hzb
    cases fu with
    | zero => omega
    | succ fu =>
      have hm' : m = 10080 := by omega
      have hle : 10080 ≤ m := by omega
      rw [hm'] at h
      refine ⟨iI (ow p m : Nat), iI (z : Nat), iI m, M, ?_, h⟩
      rw [L_X7_findsKinds_63, if_pos (by rw [li_10080, iI_le] <;> omega)]
  | succ r ih =>
    intro fu m z M hm hf h hz hzb
    cases fu with
    | zero => omega
    | succ fu =>
      obtain ⟨M1, z1, a1, a2, a3, a4⟩ := kind_step h (by omega) (hK m (by omega)) hz hzb q7 hq fu
      obtain ⟨y1, y2, y3, M', b1, b2⟩ := ih fu (m + 1) z1 M1 (by omega) (by omega) a2 a3 a4
      exact ⟨y1, y2, y3, M', by rw [a1, b1], b2⟩
theorem L_kind0 : ∀ (r fu d : Nat) (M : Mem), d + r = 21 → r < fu → (∀ j, j < d → M 25 j = 0) → ∃ y M', L_X7_findsKinds_37 fu (iI d) M = some (y, M') ∧ (∀ j, j < 21 → M' 25 j = 0) ∧ ∀ k, k ≠ 25 → M' k = M k := by
  intro r
  induction r with
  | zero =>
    intro fu d M hd hf h
    cases fu with
    | zero => omega
    | succ fu =>
      have hd' : d = 21 := by omega
      subst hd'
      refine ⟨iI ((21 : Nat) : Int), M, ?_, h, fun _ _ => rfl⟩
      rw [L_X7_findsKinds_37, if_pos (by rw [li_21, iI_le] <;> omega)]
  | succ r ih =>
    intro fu d M hd hf h
    cases fu with
    | zero => omega
    | succ fu =>
      obtain ⟨y, M', a1, a2, a3⟩ := ih fu (d + 1) (mst M 25 d 0) (by omega) (by omega) (fun j hj => by
        rw [mst_a, if_pos rfl]
        by_cases c : j = d
        · rw [if_pos c]
        · rw [if_neg c]; exact h j (by omega))
      refine ⟨y, M', ?_, a2, fun k k1 => by rw [a3 k k1, mst_k _ _ _ _ k1]⟩
      rw [← a1, L_X7_findsKinds_37, if_neg (by rw [li_21, iI_le] <;> omega), mwr_i (by omega) (by omega), Option.bind_some, Int.toNat_natCast]
      unfold bnd
      rw [li_1, iI_add]
      rfl
theorem ctd_ow (p : Nat → Bool) {d : Nat} (hd : d < 7) : ct p (d * 1440) ((d + 1) * 1440) 10080 + ow p (d * 1440) = ow p ((d + 1) * 1440) := by
  rw [← rr_cls]
  exact cls_ow p hd
theorem L_kflag {M : Mem} {p : Nat → Bool} (h : ∀ d, d < 7 → M 24 d = iI (ct p (d * 1440) ((d + 1) * 1440) 10080 : Nat)) : ∀ (r fu d : Nat), d + r = 6 → r < fu → ∃ y, L_X7_findsKinds_4 M fu (bI (flg p d)) (iI d) = some (bI (flg p 6), y) := by
  intro r
  induction r with
  | zero =>
    intro fu d hd hf
    cases fu with
    | zero => omega
    | succ fu =>
      have hd' : d = 6 := by omega
      subst hd'
      refine ⟨iI ((6 : Nat) : Int), ?_⟩
      rw [L_X7_findsKinds_4, if_pos (by rw [li_6, iI_le] <;> omega)]
  | succ r ih =>
    intro fu d hd hf
    cases fu with
    | zero => omega
    | succ fu =>
      obtain ⟨y, e⟩ := ih fu (d + 1) (by omega) (by omega)
      refine ⟨y, ?_⟩
      have hc := ctd_ow p (d := d) (by omega)
      have hle := ct_le p (d * 1440) ((d + 1) * 1440) 10080
      have p5 : (bI (flg p d) = 0) = (flg p d = false) := propext (bI_0 _)
      rw [← e, L_X7_findsKinds_4, if_neg (by rw [li_6, iI_le] <;> omega), mrd_i (by omega) (by omega), Int.toNat_natCast, h d (by omega)]
      simp only [p5]
      unfold bnd
      rw [li_1, iI_add, Option.bind_some]
      cases hf2 : flg p d with
      | false =>
        have e1 : flg p (d + 1) = false := by rw [flg, hf2]; rfl
        rw [if_pos rfl, Option.bind_some, e1]
        rfl
      | true =>
        rw [if_neg (by decide)]
        by_cases c : ow p (d * 1440) < ow p ((d + 1) * 1440)
        · have e1 : flg p (d + 1) = true := by rw [flg, hf2, decide_eq_true c]; rfl
          rw [if_neg (by rw [li_0, iI_le] <;> omega), Option.bind_some, e1]
          rfl
        · have e1 : flg p (d + 1) = false := by rw [flg, hf2, decide_eq_false c]; rfl
          rw [if_pos (by rw [li_0, iI_le] <;> omega), Option.bind_some, e1]
          rfl
theorem X7_kinds {M : Mem} {p : Nat → Bool} (h24 : ∀ d, d < 7 → M 24 d = iI (ct p (d * 1440) ((d + 1) * 1440) 10080 : Nat)) (hK : ∀ m, m < 10080 → M 22 m = if p m = true then iI 0 else iI (-1)) : ∃ M', s_X7_findsKinds M = some M' ∧ KindI M M' p (flg p 6) 10080 := by
  obtain ⟨y, a1⟩ := L_kflag h24 6 FU 0 (by omega) (by rw [FU_0]; omega)
  obtain ⟨y', M1, b1, b2, b3⟩ := L_kind0 21 FU 0 M (by omega) (by rw [FU_0]; omega) (fun j hj => by omega)
  have hI : KindI M M1 p (flg p 6) 0 := ⟨fun j hj => by omega, fun j _ => by rw [b3 22 (by omega)], fun d c hd hc => b2 _ (by omega), fun k k1 k2 => b3 k k2⟩
  obtain ⟨y1, y2, y3, M', c1, c2⟩ := L_kind hK (bI (flg p 6), y) rfl 10080 FU 0 0 M1 (by omega) (by rw [FU_0]; omega) hI (fun g => by omega) (by omega)
  refine ⟨M', ?_, c2⟩
  have a1' : L_X7_findsKinds_4 M FU 1 0 = some (bI (flg p 6), y) := a1
  have b1' : L_X7_findsKinds_37 FU 0 M = some (y', M1) := b1
  have c1' : L_X7_findsKinds_63 (bI (flg p 6), y) FU 0 0 0 M1 = some (y1, y2, y3, M') := c1
  unfold s_X7_findsKinds
  rw [a1', Option.bind_some, b1', Option.bind_some, c1']
  rfl

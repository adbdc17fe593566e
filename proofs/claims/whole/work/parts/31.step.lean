/-! good, step -/
theorem ag_good (d len : Nat) (μ : zMu) (ν : zNu) (a : Int32) (b : Int32) (h : RnumM μ) : ∃ (v : Int32) (μ1 μ2 : zMu), zF zT0 (d + 8) 138 [.ref 1, .int a, .int b] (zm len μ ν) = some (.int v, zm len μ1 ν) ∧ zF zT0 (d + 8) 190 [.ref 92, .int a, .int b] (zm len μ1 ν) = some (.int v, zm len μ2 ν) ∧ RnumM μ2 ∧ zfr [5, 95] [0] μ μ2 := by
  have hR := h
  obtain ⟨g1, g2, g3, g4, g5, g6⟩ := h
  have ba : (0 ≤ a ∧ a ≤ 7) → 0 ≤ a.toInt ∧ a.toInt < ((8 : Nat) : Int) := by intro z; have z1 := z.1; have z2 := z.2; rw [i32_le] at z1 z2; have y0 : (0 : Int32).toInt = 0 := rfl; have y7 : (7 : Int32).toInt = 7 := rfl; omega
  by_cases hall : (0 ≤ a ∧ a ≤ 7) ∧ (0 ≤ b ∧ b ≤ 3)
  · obtain ⟨c1, c2⟩ := hall
    refine ⟨1, (zup μ 5 a.toNatClampNeg b), (zup (zup (zup μ 5 a.toNatClampNeg b) 92 0 0) 95 a.toNatClampNeg b), ?_, ?_, ?_, ?_⟩
    · rw [B_X11_good]
      simp only [B_X5_setSystem, F_X11_isGood, B_X5_setSystem_4, F_X5_isSystem, B_X5_setSystem_11, B_X11_good_9, ba, c1, c2, zbi_some, zbi_none, zbi_ite, zb_ite0, zb_or, b01_0, b01_1, b10, zrdS, zrdN, upd_eq, upd_ne, ne_eq, Nat.reduceEqDiff, or_true, true_or, if_true, if_false, and_self, and_true, true_and, not_true_eq_false, not_false_eq_true]
      all_goals rfl
    · rw [B_X12_good]
      simp only [F_X12_isGood, B_X12_good_10, F_X12_isSystem, B_X12_good_18, ba, c1, c2, zbi_some, zbi_none, zbi_ite, zb_ite0, zb_or, b01_0, b01_1, b10, zrdS, zrdN, upd_eq, upd_ne, ne_eq, Nat.reduceEqDiff, or_true, true_or, if_true, if_false, and_self, and_true, true_and, not_true_eq_false, not_false_eq_true]
      all_goals rfl
    · show Rnum (μ 3) (μ 93) (μ 4) (μ 94) (upd (μ 5) a.toNatClampNeg b) (upd (μ 95) a.toNatClampNeg b)
      have k1 := c2.1
      have k2 := c2.2
      have t0 : (0 : Int32).toInt = 0 := rfl
      have t3 : (3 : Int32).toInt = 3 := rfl
      rw [i32_le] at k1 k2
      exact ⟨g1, by rw [g2], zin2_upd g3 (by omega) (by omega), g4, g5, g6⟩
    · exact zfr_up (zfr_92 (zfr_up (zfr_rf _ _ _) (by decide) (by decide)) (by decide)) (by decide) (by decide)
  · refine ⟨0, μ, zup μ 92 0 0, ?_, ?_, hR, zfr_92 (zfr_rf _ _ _) (by decide)⟩
    · rw [B_X11_good]
      by_cases c1 : 0 ≤ a ∧ a ≤ 7 <;> by_cases c2 : 0 ≤ b ∧ b ≤ 3 <;> try simp only [B_X5_setSystem, F_X11_isGood, B_X5_setSystem_4, F_X5_isSystem, B_X5_setSystem_11, B_X11_good_9, ba, c1, c2, zbi_some, zbi_none, zbi_ite, zb_ite0, zb_or, b01_0, b01_1, b10, zrdS, zrdN, upd_eq, upd_ne, ne_eq, Nat.reduceEqDiff, or_true, true_or, if_true, if_false, and_self, and_true, true_and, not_true_eq_false, not_false_eq_true]
      exact absurd ⟨c1, c2⟩ hall
    · rw [B_X12_good]
      by_cases c1 : 0 ≤ a ∧ a ≤ 7 <;> by_cases c2 : 0 ≤ b ∧ b ≤ 3 <;> try simp only [F_X12_isGood, B_X12_good_10, F_X12_isSystem, B_X12_good_18, ba, c1, c2, zbi_some, zbi_none, zbi_ite, zb_ite0, zb_or, b01_0, b01_1, b10, zrdS, zrdN, upd_eq, upd_ne, ne_eq, Nat.reduceEqDiff, or_true, true_or, if_true, if_false, and_self, and_true, true_and, not_true_eq_false, not_false_eq_true]
      exact absurd ⟨c1, c2⟩ hall


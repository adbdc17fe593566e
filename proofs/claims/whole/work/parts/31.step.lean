/-! good, step -/
theorem ag_good (d len : Nat) (μ : zMu) (ν : zNu) (a : Int32) (b : Int32) (h : RnumM μ) : ∃ (v : Int32) (μ1 μ2 : zMu), zF zT0 (d + 8) 138 [.ref 1, .int a, .int b] (zm len μ ν) = some (.int v, zm len μ1 ν) ∧ zF zT0 (d + 8) 190 [.ref 92, .int a, .int b] (zm len μ1 ν) = some (.int v, zm len μ2 ν) ∧ RnumM μ2 ∧ zfr [5, 95] [0] μ μ2 := by
  have hR := h
  obtain ⟨g1, g2, g3, g4, g5, g6⟩ := h
  have ba : (0 ≤ a ∧ a ≤ 7) → 0 ≤ a.toInt ∧ a.toInt < ((8 : Nat) : Int) := by intro z; have z1 := z.1; have z2 := z.2; rw [i32_le] at z1 z2; have y0 : (0 : Int32).toInt = 0 := rfl; have y7 : (7 : Int32).toInt = 7 := rfl; omega
  by_cases hall : (0 ≤ a ∧ a ≤ 7) ∧ (0 ≤ b ∧ b ≤ 3)
  · obtain ⟨c1, c2⟩ := hall
    refine ⟨1, (zup μ 5 a.toNatClampNeg b), (zup (zup (zup μ 5 a.toNatClampNeg b) 92 0 0) 95 a.toNatClampNeg b), ?_, ?_, ?_, ?_⟩
    · rw [B_X11_good]
      simp only [B_X5_setSystem, F_X11_isGood, B_X5_setSystem_4, F_X5_isSystem, B_X5_setSystem_11, B_X11_good_9, ba, c1, c2, zbi_some, zbi_none, zbi_ite, zb_ite0, zb_or, b01_0, b01_1, b10, zrdS, zrdN, upd_eq, upd_ne, ne_eq, Nat.reduceEqDiff, or_true, true_or, if_true, if_false, and_self, and_true, true_and, not_true_eq_false, not_false_eq_true]
      all_goals rfl
    · rw [B_X12_good]
      simp only [F_X12_isGood, B_X12_good_10, F_X12_isSystem, B_X12_good_18, ba, c1, c2, zbi_some, zbi_none, zbi_ite, zb_ite0, zb_or, b01_0, b01_1, b10, zrdS, zrdN, upd_eq, upd_ne, ne_eq, Nat.reduceEqDiff, or_true, true_or, if_true, if_false, and_self, and_true, true_and, not_true_eq_false, not_false_eq_true]
      all_goals rfl
    · show Rnum (μ 3) (μ 93) (μ 4) (μ 94) (upd (μ 5) a.toNatClampNeg b) (upd (μ 95) a.toNatClampNeg b)
      have k1 := c2.1
      have k2 := c2.2
      have t0 : (0 : Int32).toInt = 0 := rfl
      have t3 : (3 : Int32).toInt = 3 := rfl
      rw [i32_le] at k1 k2
      exact ⟨g1, by rw [g2], zin2_upd g3 (by omega) (by omega), g4, g5, g6⟩
    · exact zfr_up (zfr_92 (zfr_up (zfr_rf _ _ _) (by decide) (by decide)) (by decide)) (by decide) (by decide)
  · refine ⟨0, μ, zup μ 92 0 0, ?_, ?_, hR, zfr_92 (zfr_rf _ _ _) (by decide)⟩
    · rw [B_X11_good]
      by_cases c1 : 0 ≤ a ∧ a ≤ 7 <;> by_cases c2 : 0 ≤ b ∧ b ≤ 3 <;> try simp only [B_X5_setSystem, F_X11_isGood, B_X5_setSystem_4, F_X5_isSystem, B_X5_setSystem_11, B_X11_good_9, ba, c1, c2, zbi_some, zbi_none, zbi_ite, zb_ite0, zb_or, b01_0, b01_1, b10, zrdS, zrdN, upd_eq, upd_ne, ne_eq, Nat.reduceEqDiff, or_true, true_or, if_true, if_false, and_self, and_true, true_and, not_true_eq_false, not_false_eq_true]
      exact absurd ⟨c1, c2⟩ hall
    · rw [B_X12_good]
      by_cases c1 : 0 ≤ a ∧ a ≤ 7 <;> by_cases c2 : 0 ≤ b ∧ b ≤ 3 <;> try simp only [F_X12_isGood, B_X12_good_10, F_X12_isSystem, B_X12_good_18, ba, c1, c2, zbi_some, zbi_none, zbi_ite, zb_ite0, zb_or, b01_0, b01_1, b10, zrdS, zrdN, upd_eq, upd_ne, ne_eq, Nat.reduceEqDiff, or_true, true_or, if_true, if_false, and_self, and_true, true_and, not_true_eq_false, not_false_eq_true]
      exact absurd ⟨c1, c2⟩ hall

theorem ag_step0 (d len : Nat) (μ : zMu) (ν : zNu) (a : Int32) (b : Int32) (c : Int32) (hx : c = 0) (h : RnumM μ) : ∃ (v : Int32) (μ1 μ2 : zMu), zF zT0 (d + 8) 137 [.ref 1, .int a, .int b, .int c] (zm len μ ν) = some (.int v, zm len μ1 ν) ∧ zF zT0 (d + 8) 189 [.ref 92, .int a, .int b, .int c] (zm len μ1 ν) = some (.int v, zm len μ2 ν) ∧ RnumM μ2 ∧ zfr [3, 93] [0] μ μ2 := by
  have hR := h
  obtain ⟨g1, g2, g3, g4, g5, g6⟩ := h
  have s1 : (c = 0) = True := eq_true hx
  have hS : (0 ≤ a ∧ a ≤ 3) → 0 ≤ a.toInt ∧ a.toInt < ((4 : Nat) : Int) := by intro z; have z1 := z.1; have z2 := z.2; rw [i32_le] at z1 z2; have y0 : (0 : Int32).toInt = 0 := rfl; have y3 : (3 : Int32).toInt = 3 := rfl; omega
  have q1 : ((μ 3 a.toNatClampNeg) ≤ 2) = ¬ (2 < (μ 3 a.toNatClampNeg)) := propext ⟨fun q z => by rw [i32_le] at q; rw [i32_lt] at z; omega, fun q => by rw [i32_lt] at q; rw [i32_le]; omega⟩
  have q2 : (0 ≤ a ∧ a ≤ 3) → ((μ 3 a.toNatClampNeg) = 2) = ¬ (2 < (μ 3 a.toNatClampNeg)) := fun z => by have w := g4 a.toNatClampNeg (by have := hS z; rw [i32_nat]; omega); have t2 : (2 : Int32).toInt = 2 := rfl; rw [i32_lt, i32_eq]; exact propext (by omega)
  by_cases hall : (0 ≤ a ∧ a ≤ 3) ∧ (2 < (μ 3 a.toNatClampNeg)) ∧ (b = (μ 3 a.toNatClampNeg) - 2)
  · obtain ⟨c0, c1, c2⟩ := hall
    have hSn := g4 a.toNatClampNeg (by have := hS c0; rw [i32_nat]; omega)
    have t1 : (1 : Int32).toInt = 1 := rfl
    have t2 : (2 : Int32).toInt = 2 := rfl
    have t0 : (0 : Int32).toInt = 0 := rfl
    have hd2 : ((μ 3 a.toNatClampNeg) - 2).toInt = (μ 3 a.toNatClampNeg).toInt - 2 := by rw [i32_sub] <;> omega
    have hd1 : ((μ 3 a.toNatClampNeg) - 1).toInt = (μ 3 a.toNatClampNeg).toInt - 1 := by rw [i32_sub] <;> omega
    have k1 := c1
    have hib : 0 ≤ (μ 3 a.toNatClampNeg) - 2 ∧ (μ 3 a.toNatClampNeg) - 2 ≤ (μ 3 a.toNatClampNeg) - 1 := by rw [i32_lt] at k1; constructor <;> (rw [i32_le]; omega)
    refine ⟨1, (zup μ 3 a.toNatClampNeg ((μ 3 a.toNatClampNeg) - 1)), (zup (zup (zup μ 3 a.toNatClampNeg ((μ 3 a.toNatClampNeg) - 1)) 92 0 0) 93 a.toNatClampNeg ((μ 3 a.toNatClampNeg) - 1)), ?_, ?_, ?_, ?_⟩
    · rw [B_X11_step]
      simp only [B_X5_setStep, F_X5_isSystem, B_X5_setStep_4, B_X5_dropSign, B_X5_setStep_19, B_X11_step_10, ite_self, s1, hS, q1, q2, c0, c1, c2, hSn, t1, t2, t0, hd2, hd1, k1, hib, zbi_some, zbi_none, zbi_ite, zb_ite0, zb_or, b01_0, b01_1, b10, zrdS, zrdN, upd_eq, upd_ne, ne_eq, Nat.reduceEqDiff, or_true, true_or, if_true, if_false, and_self, and_true, true_and, not_true_eq_false, not_false_eq_true]
      all_goals rfl
    · rw [B_X12_step]
      have er93 : (zup (zup μ 3 a.toNatClampNeg ((μ 3 a.toNatClampNeg) - 1)) 92 0 0) 93 = μ 93 := rfl
      simp only [F_X12_isSystem, B_X12_step_10, F_isIn, B_X12_step_27, B_X12_step_49, ← g1, ite_self, s1, hS, q1, q2, er93, c0, c1, c2, hSn, t1, t2, t0, hd2, hd1, k1, hib, zbi_some, zbi_none, zbi_ite, zb_ite0, zb_or, b01_0, b01_1, b10, zrdS, zrdN, upd_eq, upd_ne, ne_eq, Nat.reduceEqDiff, or_true, true_or, if_true, if_false, and_self, and_true, true_and, not_true_eq_false, not_false_eq_true]
      all_goals rfl
    · show Rnum (upd (μ 3) a.toNatClampNeg ((μ 3 a.toNatClampNeg) - 1)) (upd (μ 93) a.toNatClampNeg ((μ 3 a.toNatClampNeg) - 1)) (μ 4) (μ 94) (μ 5) (μ 95)
      rw [i32_lt] at k1
      refine ⟨by rw [g1], g2, g3, fun s hs => ?_, fun s i hs hi => ?_, fun s hs => ?_⟩
      · by_cases q : s = a.toNatClampNeg
        · rw [q, upd_eq, hd1]
          omega
        · rw [upd_ne _ _ q]
          exact g4 s hs
      · refine g5 s i hs ?_
        by_cases q : s = a.toNatClampNeg
        · rw [q, upd_eq, hd1] at hi
          rw [q]
          omega
        · rw [upd_ne _ _ q] at hi
          exact hi
      · by_cases q : s = a.toNatClampNeg
        · rw [q, upd_eq, hd1]
          have hm : zP (fun j => (μ 94 (5 * a.toNatClampNeg + j)).toInt) (((μ 3 a.toNatClampNeg).toInt - 1).toNat - 1) ≤ zP (fun j => (μ 94 (5 * a.toNatClampNeg + j)).toInt) ((μ 3 a.toNatClampNeg).toInt.toNat - 1) := zP_mono (fun j hj => by have := g5 a.toNatClampNeg j (q ▸ hs) (by omega); show 1 ≤ (μ 94 (5 * a.toNatClampNeg + j)).toInt; rw [← this.1]; omega) (by omega)
          have := g6 a.toNatClampNeg (q ▸ hs)
          omega
        · rw [upd_ne _ _ q]
          exact g6 s hs
    · exact zfr_up (zfr_92 (zfr_up (zfr_rf _ _ _) (by decide) (by decide)) (by decide)) (by decide) (by decide)
  · refine ⟨0, μ, zup μ 92 0 0, ?_, ?_, hR, zfr_92 (zfr_rf _ _ _) (by decide)⟩
    · rw [B_X11_step]
      by_cases c0 : 0 ≤ a ∧ a ≤ 3 <;> by_cases c1 : 2 < (μ 3 a.toNatClampNeg) <;> by_cases c2 : b = (μ 3 a.toNatClampNeg) - 2 <;> try simp only [B_X5_setStep, F_X5_isSystem, B_X5_setStep_4, B_X5_dropSign, B_X5_setStep_19, B_X11_step_10, ite_self, s1, hS, q1, q2, c0, c1, c2, zbi_some, zbi_none, zbi_ite, zb_ite0, zb_or, b01_0, b01_1, b10, zrdS, zrdN, upd_eq, upd_ne, ne_eq, Nat.reduceEqDiff, or_true, true_or, if_true, if_false, and_self, and_true, true_and, not_true_eq_false, not_false_eq_true]
      exact absurd ⟨c0, c1, c2⟩ hall
    · rw [B_X12_step]
      have er93 : (zup μ 92 0 0) 93 = μ 93 := rfl
      by_cases c0 : 0 ≤ a ∧ a ≤ 3 <;> by_cases c1 : 2 < (μ 3 a.toNatClampNeg) <;> by_cases c2 : b = (μ 3 a.toNatClampNeg) - 2 <;> try simp only [F_X12_isSystem, B_X12_step_10, F_isIn, B_X12_step_27, B_X12_step_49, ← g1, ite_self, s1, hS, q1, q2, er93, c0, c1, c2, zbi_some, zbi_none, zbi_ite, zb_ite0, zb_or, b01_0, b01_1, b10, zrdS, zrdN, upd_eq, upd_ne, ne_eq, Nat.reduceEqDiff, or_true, true_or, if_true, if_false, and_self, and_true, true_and, not_true_eq_false, not_false_eq_true]
      exact absurd ⟨c0, c1, c2⟩ hall


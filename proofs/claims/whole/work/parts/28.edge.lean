/-! PLAIN CALLS: edge, year, end, feed -/
theorem ag_edge0 (d len : Nat) (μ : zMu) (ν : zNu) (a : Int32) (b : Int32) (c : Int32) (e : Int32) (hx : b = 0) (h : RfragM μ) : ∃ (v : Int32) (μ1 μ2 : zMu), zF zT0 (d + 8) 157 [.ref 1, .int a, .int b, .int c, .int e] (zm len μ ν) = some (.int v, zm len μ1 ν) ∧ zF zT0 (d + 8) 244 [.ref 92, .int a, .int b, .int c, .int e] (zm len μ1 ν) = some (.int v, zm len μ2 ν) ∧ RfragM μ2 ∧ zfr [53, 54, 130, 131] [0] μ μ2 := by
  have hR := h
  obtain ⟨g1, g2, g3, g4, g5, g6, g7, g8, g9⟩ := h
  have q0 : (a ≤ μ 51 0 - 1) = (a < μ 51 0) := propext (i32_pred g2)
  have ba : (0 ≤ a ∧ a < μ 51 0) → (0 ≤ c ∧ c ≤ 4) → 0 ≤ (5 * a + c).toInt ∧ (5 * a + c).toInt < ((40 : Nat) : Int) := by intro z w; have z1 := z.1; have z2 := z.2; have z3 := w.1; have z4 := w.2; rw [i32_le] at z1 z3 z4; rw [i32_lt] at z2; have y0 : (0 : Int32).toInt = 0 := rfl; have y4 : (4 : Int32).toInt = 4 := rfl; rw [idx5 (by omega) (by omega) (by omega) (by omega)]; omega
  have s1 : (b = 0) = True := eq_true hx
  by_cases hall : (0 ≤ a ∧ a < μ 51 0) ∧ (0 ≤ c ∧ c ≤ 4) ∧ (-9 ≤ e ∧ e ≤ 9)
  · obtain ⟨c1, c2, c3⟩ := hall
    refine ⟨1, (zup μ 53 (5 * a + c).toNatClampNeg e), (zup (zup (zup μ 53 (5 * a + c).toNatClampNeg e) 92 0 0) 130 (5 * a + c).toNatClampNeg e), ?_, ?_, ?_, ?_⟩
    · rw [B_X11_edge]
      simp only [B_X3_setEdge, F_within, B_X3_setEdge_11, B_X3_setEdge_20, B_X3_setEdge_32, B_X11_edge_12, i32_mul5, q0, ba, s1, c1, c2, c3, zbi_some, zbi_none, zbi_ite, zb_ite0, zb_or, b01_0, b01_1, b10, zrdS, zrdN, upd_eq, upd_ne, ne_eq, Nat.reduceEqDiff, or_true, true_or, if_true, if_false, and_self, and_true, true_and, not_true_eq_false, not_false_eq_true]
      all_goals rfl
    · rw [B_X12_edge]
      have er92_56 : (zup (zup μ 53 (5 * a + c).toNatClampNeg e) 92 0 0) 92 56 = μ 92 56 := rfl
      simp only [F_X12_isFragment, B_X12_edge_10, F_isIn, B_X12_edge_20, B_X12_edge_33, ← g1, q0, ba, s1, er92_56, c1, c2, c3, zbi_some, zbi_none, zbi_ite, zb_ite0, zb_or, b01_0, b01_1, b10, zrdS, zrdN, upd_eq, upd_ne, ne_eq, Nat.reduceEqDiff, or_true, true_or, if_true, if_false, and_self, and_true, true_and, not_true_eq_false, not_false_eq_true]
      all_goals rfl
    · show Rfrag (μ 51 0) (μ 92 56) (μ 52) (μ 129) (upd (μ 53) (5 * a + c).toNatClampNeg e) (upd (μ 130) (5 * a + c).toNatClampNeg e) (μ 54) (μ 131)
      have k1 := c3.1
      have k2 := c3.2
      have tm9 : (-9 : Int32).toInt = -9 := rfl
      have t9 : (9 : Int32).toInt = 9 := rfl
      rw [i32_le] at k1 k2
      exact ⟨g1, g2, g3, g4, by rw [g5], g6, g7, upd_all (P := fun z => -9 ≤ z.toInt ∧ z.toInt ≤ 9) g8 (by omega), g9⟩
    · exact zfr_up (zfr_92 (zfr_up (zfr_rf _ _ _) (by decide) (by decide)) (by decide)) (by decide) (by decide)
  · refine ⟨0, μ, zup μ 92 0 0, ?_, ?_, hR, zfr_92 (zfr_rf _ _ _) (by decide)⟩
    · rw [B_X11_edge]
      by_cases c1 : 0 ≤ a ∧ a < μ 51 0 <;> by_cases c2 : 0 ≤ c ∧ c ≤ 4 <;> by_cases c3 : -9 ≤ e ∧ e ≤ 9 <;> try simp only [B_X3_setEdge, F_within, B_X3_setEdge_11, B_X3_setEdge_20, B_X3_setEdge_32, B_X11_edge_12, i32_mul5, q0, ba, s1, c1, c2, c3, zbi_some, zbi_none, zbi_ite, zb_ite0, zb_or, b01_0, b01_1, b10, zrdS, zrdN, upd_eq, upd_ne, ne_eq, Nat.reduceEqDiff, or_true, true_or, if_true, if_false, and_self, and_true, true_and, not_true_eq_false, not_false_eq_true]
      exact absurd ⟨c1, c2, c3⟩ hall
    · rw [B_X12_edge]
      have er92_56 : (zup μ 92 0 0) 92 56 = μ 92 56 := rfl
      by_cases c1 : 0 ≤ a ∧ a < μ 51 0 <;> by_cases c2 : 0 ≤ c ∧ c ≤ 4 <;> by_cases c3 : -9 ≤ e ∧ e ≤ 9 <;> try simp only [F_X12_isFragment, B_X12_edge_10, F_isIn, B_X12_edge_20, B_X12_edge_33, ← g1, q0, ba, s1, er92_56, c1, c2, c3, zbi_some, zbi_none, zbi_ite, zb_ite0, zb_or, b01_0, b01_1, b10, zrdS, zrdN, upd_eq, upd_ne, ne_eq, Nat.reduceEqDiff, or_true, true_or, if_true, if_false, and_self, and_true, true_and, not_true_eq_false, not_false_eq_true]
      exact absurd ⟨c1, c2, c3⟩ hall

theorem ag_edge1 (d len : Nat) (μ : zMu) (ν : zNu) (a : Int32) (b : Int32) (c : Int32) (e : Int32) (hx : ¬ b = 0) (h : RfragM μ) : ∃ (v : Int32) (μ1 μ2 : zMu), zF zT0 (d + 8) 157 [.ref 1, .int a, .int b, .int c, .int e] (zm len μ ν) = some (.int v, zm len μ1 ν) ∧ zF zT0 (d + 8) 244 [.ref 92, .int a, .int b, .int c, .int e] (zm len μ1 ν) = some (.int v, zm len μ2 ν) ∧ RfragM μ2 ∧ zfr [53, 54, 130, 131] [0] μ μ2 := by
  have hR := h
  obtain ⟨g1, g2, g3, g4, g5, g6, g7, g8, g9⟩ := h
  have q0 : (a ≤ μ 51 0 - 1) = (a < μ 51 0) := propext (i32_pred g2)
  have ba : (0 ≤ a ∧ a < μ 51 0) → (0 ≤ c ∧ c ≤ 4) → 0 ≤ (5 * a + c).toInt ∧ (5 * a + c).toInt < ((40 : Nat) : Int) := by intro z w; have z1 := z.1; have z2 := z.2; have z3 := w.1; have z4 := w.2; rw [i32_le] at z1 z3 z4; rw [i32_lt] at z2; have y0 : (0 : Int32).toInt = 0 := rfl; have y4 : (4 : Int32).toInt = 4 := rfl; rw [idx5 (by omega) (by omega) (by omega) (by omega)]; omega
  have s1 : (b = 0) = False := eq_false hx
  by_cases hall : (0 ≤ a ∧ a < μ 51 0) ∧ (0 ≤ c ∧ c ≤ 4) ∧ (-9 ≤ e ∧ e ≤ 9)
  · obtain ⟨c1, c2, c3⟩ := hall
    refine ⟨1, (zup μ 54 (5 * a + c).toNatClampNeg e), (zup (zup (zup μ 54 (5 * a + c).toNatClampNeg e) 92 0 0) 131 (5 * a + c).toNatClampNeg e), ?_, ?_, ?_, ?_⟩
    · rw [B_X11_edge]
      simp only [B_X3_setEdge, F_within, B_X3_setEdge_11, B_X3_setEdge_20, B_X3_setEdge_32, B_X11_edge_12, i32_mul5, q0, ba, s1, c1, c2, c3, zbi_some, zbi_none, zbi_ite, zb_ite0, zb_or, b01_0, b01_1, b10, zrdS, zrdN, upd_eq, upd_ne, ne_eq, Nat.reduceEqDiff, or_true, true_or, if_true, if_false, and_self, and_true, true_and, not_true_eq_false, not_false_eq_true]
      all_goals rfl
    · rw [B_X12_edge]
      have er92_56 : (zup (zup μ 54 (5 * a + c).toNatClampNeg e) 92 0 0) 92 56 = μ 92 56 := rfl
      simp only [F_X12_isFragment, B_X12_edge_10, F_isIn, B_X12_edge_20, B_X12_edge_33, ← g1, q0, ba, s1, er92_56, c1, c2, c3, zbi_some, zbi_none, zbi_ite, zb_ite0, zb_or, b01_0, b01_1, b10, zrdS, zrdN, upd_eq, upd_ne, ne_eq, Nat.reduceEqDiff, or_true, true_or, if_true, if_false, and_self, and_true, true_and, not_true_eq_false, not_false_eq_true]
      all_goals rfl
    · show Rfrag (μ 51 0) (μ 92 56) (μ 52) (μ 129) (μ 53) (μ 130) (upd (μ 54) (5 * a + c).toNatClampNeg e) (upd (μ 131) (5 * a + c).toNatClampNeg e)
      have k1 := c3.1
      have k2 := c3.2
      have tm9 : (-9 : Int32).toInt = -9 := rfl
      have t9 : (9 : Int32).toInt = 9 := rfl
      rw [i32_le] at k1 k2
      exact ⟨g1, g2, g3, g4, g5, by rw [g6], g7, g8, upd_all (P := fun z => -9 ≤ z.toInt ∧ z.toInt ≤ 9) g9 (by omega)⟩
    · exact zfr_up (zfr_92 (zfr_up (zfr_rf _ _ _) (by decide) (by decide)) (by decide)) (by decide) (by decide)
  · refine ⟨0, μ, zup μ 92 0 0, ?_, ?_, hR, zfr_92 (zfr_rf _ _ _) (by decide)⟩
    · rw [B_X11_edge]
      by_cases c1 : 0 ≤ a ∧ a < μ 51 0 <;> by_cases c2 : 0 ≤ c ∧ c ≤ 4 <;> by_cases c3 : -9 ≤ e ∧ e ≤ 9 <;> try simp only [B_X3_setEdge, F_within, B_X3_setEdge_11, B_X3_setEdge_20, B_X3_setEdge_32, B_X11_edge_12, i32_mul5, q0, ba, s1, c1, c2, c3, zbi_some, zbi_none, zbi_ite, zb_ite0, zb_or, b01_0, b01_1, b10, zrdS, zrdN, upd_eq, upd_ne, ne_eq, Nat.reduceEqDiff, or_true, true_or, if_true, if_false, and_self, and_true, true_and, not_true_eq_false, not_false_eq_true]
      exact absurd ⟨c1, c2, c3⟩ hall
    · rw [B_X12_edge]
      have er92_56 : (zup μ 92 0 0) 92 56 = μ 92 56 := rfl
      by_cases c1 : 0 ≤ a ∧ a < μ 51 0 <;> by_cases c2 : 0 ≤ c ∧ c ≤ 4 <;> by_cases c3 : -9 ≤ e ∧ e ≤ 9 <;> try simp only [F_X12_isFragment, B_X12_edge_10, F_isIn, B_X12_edge_20, B_X12_edge_33, ← g1, q0, ba, s1, er92_56, c1, c2, c3, zbi_some, zbi_none, zbi_ite, zb_ite0, zb_or, b01_0, b01_1, b10, zrdS, zrdN, upd_eq, upd_ne, ne_eq, Nat.reduceEqDiff, or_true, true_or, if_true, if_false, and_self, and_true, true_and, not_true_eq_false, not_false_eq_true]
      exact absurd ⟨c1, c2, c3⟩ hall

theorem ag_edge (d len : Nat) (μ : zMu) (ν : zNu) (a b c e : Int32) (h : RfragM μ) : ∃ (v : Int32) (μ1 μ2 : zMu), zF zT0 (d + 8) 157 [.ref 1, .int a, .int b, .int c, .int e] (zm len μ ν) = some (.int v, zm len μ1 ν) ∧ zF zT0 (d + 8) 244 [.ref 92, .int a, .int b, .int c, .int e] (zm len μ1 ν) = some (.int v, zm len μ2 ν) ∧ RfragM μ2 ∧ zfr [53, 54, 130, 131] [0] μ μ2 := by
  by_cases hx : b = 0
  · exact ag_edge0 d len μ ν a b c e hx h
  · exact ag_edge1 d len μ ν a b c e hx h
theorem ag_year (d len : Nat) (μ : zMu) (ν : zNu) (h : RnowM μ) : ∃ (v : Int32) (μ1 μ2 : zMu), zF zT0 (d + 8) 140 [.ref 1] (zm len μ ν) = some (.int v, zm len μ1 ν) ∧ zF zT0 (d + 8) 192 [.ref 92] (zm len μ1 ν) = some (.int v, zm len μ2 ν) ∧ RnowM μ2 ∧ zfr [1] [0, 1] μ μ2 := by
  have hR := h
  obtain ⟨n1, n2, n3⟩ := h
  have q3 : (μ 1 11 = 99) = ¬ (μ 1 11 < 99) := by have t8 : (99 : Int32).toInt = 99 := rfl; rw [i32_lt, i32_eq]; apply propext; omega
  by_cases hall : μ 1 11 < 99
  · have c1 := hall
    refine ⟨μ 1 11 + 1, (zup μ 1 11 (μ 1 11 + 1)), (zup (zup (zup μ 1 11 (μ 1 11 + 1)) 92 0 0) 92 1 (μ 1 11 + 1)), ?_, ?_, ?_, ?_⟩
    · rw [B_X11_year]
      simp only [F_within, q3, c1, zbi_some, zbi_none, zbi_ite, zb_ite0, zb_or, b01_0, b01_1, b10, zrdS, zrdN, upd_eq, upd_ne, ne_eq, Nat.reduceEqDiff, or_true, true_or, if_true, if_false, and_self, and_true, true_and, not_true_eq_false, not_false_eq_true]
      all_goals rfl
    · rw [B_X12_year]
      have er92_1 : (zup (zup μ 1 11 (μ 1 11 + 1)) 92 0 0) 92 1 = μ 92 1 := rfl
      simp only [F_within, ← n1, q3, er92_1, c1, zbi_some, zbi_none, zbi_ite, zb_ite0, zb_or, b01_0, b01_1, b10, zrdS, zrdN, upd_eq, upd_ne, ne_eq, Nat.reduceEqDiff, or_true, true_or, if_true, if_false, and_self, and_true, true_and, not_true_eq_false, not_false_eq_true]
      all_goals rfl
    · show Rnow (μ 1 11 + 1) (μ 1 11 + 1)
      rw [i32_lt] at c1
      have t1 : (1 : Int32).toInt = 1 := rfl
      have t99 : (99 : Int32).toInt = 99 := rfl
      have ee : (μ 1 11 + 1).toInt = (μ 1 11).toInt + 1 := by rw [i32_add] <;> omega
      exact ⟨rfl, by omega, by omega⟩
    · exact zfr_92 (zfr_92 (zfr_up (zfr_rf _ _ _) (by decide) (by decide)) (by decide)) (by decide)
  · refine ⟨(-1), μ, zup μ 92 0 0, ?_, ?_, hR, zfr_92 (zfr_rf _ _ _) (by decide)⟩
    · rw [B_X11_year]
      by_cases c1 : μ 1 11 < 99 <;> try simp only [F_within, q3, c1, zbi_some, zbi_none, zbi_ite, zb_ite0, zb_or, b01_0, b01_1, b10, zrdS, zrdN, upd_eq, upd_ne, ne_eq, Nat.reduceEqDiff, or_true, true_or, if_true, if_false, and_self, and_true, true_and, not_true_eq_false, not_false_eq_true]
      exact absurd c1 hall
    · rw [B_X12_year]
      have er92_1 : (zup μ 92 0 0) 92 1 = μ 92 1 := rfl
      by_cases c1 : μ 1 11 < 99 <;> try simp only [F_within, ← n1, q3, er92_1, c1, zbi_some, zbi_none, zbi_ite, zb_ite0, zb_or, b01_0, b01_1, b10, zrdS, zrdN, upd_eq, upd_ne, ne_eq, Nat.reduceEqDiff, or_true, true_or, if_true, if_false, and_self, and_true, true_and, not_true_eq_false, not_false_eq_true]
      exact absurd c1 hall

def Rtxt (l m : Int32) (r7 r96 : Nat → Int32) : Prop := l = m ∧ 0 ≤ l.toInt ∧ l.toInt ≤ 800 ∧ r7 = r96 ∧ zin2 r7 0 255
abbrev RtxtM (μ : zMu) : Prop := Rtxt (μ 6 1) (μ 92 6) (μ 7) (μ 96)
theorem ag_end (d len : Nat) (μ : zMu) (ν : zNu) (a : Int32) (h : RtxtM μ) : ∃ (v : Int32) (μ1 μ2 : zMu), zF zT0 (d + 8) 142 [.ref 1, .int a] (zm len μ ν) = some (.int v, zm len μ1 ν) ∧ zF zT0 (d + 8) 195 [.ref 92, .int a] (zm len μ1 ν) = some (.int v, zm len μ2 ν) ∧ RtxtM μ2 ∧ zfr [6] [0, 6] μ μ2 := by
  have hR := h
  obtain ⟨g1, g2, g3, g4, g5⟩ := h
  by_cases hall : 0 ≤ a ∧ a ≤ μ 6 1
  · have c1 := hall
    refine ⟨1, (zup μ 6 1 a), (zup (zup (zup μ 6 1 a) 92 0 0) 92 6 a), ?_, ?_, ?_, ?_⟩
    · rw [B_X11_end]
      simp only [B_X10_cut, F_within, B_X10_cut_9, B_X11_end_8, c1, zbi_some, zbi_none, zbi_ite, zb_ite0, zb_or, b01_0, b01_1, b10, zrdS, zrdN, upd_eq, upd_ne, ne_eq, Nat.reduceEqDiff, or_true, true_or, if_true, if_false, and_self, and_true, true_and, not_true_eq_false, not_false_eq_true]
      all_goals rfl
    · rw [B_X12_end]
      have er92_6 : (zup (zup μ 6 1 a) 92 0 0) 92 6 = μ 92 6 := rfl
      simp only [F_isIn, B_X12_end_15, ← g1, er92_6, c1, zbi_some, zbi_none, zbi_ite, zb_ite0, zb_or, b01_0, b01_1, b10, zrdS, zrdN, upd_eq, upd_ne, ne_eq, Nat.reduceEqDiff, or_true, true_or, if_true, if_false, and_self, and_true, true_and, not_true_eq_false, not_false_eq_true]
      all_goals rfl
    · show Rtxt a a (μ 7) (μ 96)
      have k1 := c1.1
      have k2 := c1.2
      rw [i32_le] at k1 k2
      have t0 : (0 : Int32).toInt = 0 := rfl
      exact ⟨rfl, by omega, by omega, g4, g5⟩
    · exact zfr_92 (zfr_92 (zfr_up (zfr_rf _ _ _) (by decide) (by decide)) (by decide)) (by decide)
  · refine ⟨0, μ, zup μ 92 0 0, ?_, ?_, hR, zfr_92 (zfr_rf _ _ _) (by decide)⟩
    · rw [B_X11_end]
      by_cases c1 : 0 ≤ a ∧ a ≤ μ 6 1 <;> try simp only [B_X10_cut, F_within, B_X10_cut_9, B_X11_end_8, c1, zbi_some, zbi_none, zbi_ite, zb_ite0, zb_or, b01_0, b01_1, b10, zrdS, zrdN, upd_eq, upd_ne, ne_eq, Nat.reduceEqDiff, or_true, true_or, if_true, if_false, and_self, and_true, true_and, not_true_eq_false, not_false_eq_true]
      exact absurd c1 hall
    · rw [B_X12_end]
      have er92_6 : (zup μ 92 0 0) 92 6 = μ 92 6 := rfl
      by_cases c1 : 0 ≤ a ∧ a ≤ μ 6 1 <;> try simp only [F_isIn, B_X12_end_15, ← g1, er92_6, c1, zbi_some, zbi_none, zbi_ite, zb_ite0, zb_or, b01_0, b01_1, b10, zrdS, zrdN, upd_eq, upd_ne, ne_eq, Nat.reduceEqDiff, or_true, true_or, if_true, if_false, and_self, and_true, true_and, not_true_eq_false, not_false_eq_true]
      exact absurd c1 hall


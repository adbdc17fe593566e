/-! OWED -/
theorem paid_loop (cx cm : zC) (len : Nat) (μ w : zMu) (ν : zNu) (x1 x2 x3 : Int32) (hp : 0 ≤ (μ 82 6).toInt ∧ (μ 82 6).toInt ≤ 200) (h6 : w 92 100 = μ 82 6) (h1 : w 161 = μ 88) (h2 : w 162 = μ 89) (h3 : w 163 = μ 90) (h4 : w 164 = μ 91) : ∀ (k : Nat) (s : Int64) (v v' : Value) (j : Int32), 0 ≤ j.toInt → j.toInt + k = (μ 82 6).toInt → ∃ r : Int64, zE zc_X4_paidFor cx 6 [.ref 82, .int x1, .int x2, .int x3, .long s, v, .int j] [] (zm len μ ν) = some (.long r, zm len μ ν) ∧ zE zc_X12_paidIn cm 6 [.ref 92, .int x1, .int x2, .int x3, .long s, v', .int j] [] (zm len w ν) = some (.long r, zm len w ν) := by
  intro k
  induction k with
  | zero =>
    intro s v v' j h0 hk
    have hc : μ 82 6 ≤ j := by rw [i32_le]; omega
    exact ⟨s, by rw [B_X4_paidFor_6, if_pos hc], by rw [B_X12_paidIn_6, h6, if_pos hc]⟩
  | succ k ih =>
    intro s v v' j h0 hk
    have hc : ¬ μ 82 6 ≤ j := by rw [i32_le]; omega
    have hb : 0 ≤ j.toInt ∧ j.toInt < ((200 : Nat) : Int) := by omega
    have hj : (j + 1).toInt = j.toInt + 1 := i32_add1 (by omega)
    rw [B_X4_paidFor_6, B_X12_paidIn_6, h6, h1, h2, h3, h4]
    simp only [if_neg hc, if_pos hb]
    by_cases q1 : μ 88 j.toNatClampNeg = x1
    · by_cases q2 : μ 89 j.toNatClampNeg = x2
      · by_cases q3 : x3 < μ 90 j.toNatClampNeg
        · simp only [if_pos q1, if_pos q2, if_pos q3, B_X4_paidFor_61, B_X12_paidIn_61]
          exact ih _ _ _ (j + 1) (by omega) (by omega)
        · simp only [if_pos q1, if_pos q2, if_neg q3, B_X4_paidFor_61, B_X12_paidIn_61]
          exact ih _ _ _ (j + 1) (by omega) (by omega)
      · simp only [if_pos q1, if_neg q2, B_X4_paidFor_61, B_X12_paidIn_61]
        exact ih _ _ _ (j + 1) (by omega) (by omega)
    · simp only [if_neg q1, B_X4_paidFor_61, B_X12_paidIn_61]
      exact ih _ _ _ (j + 1) (by omega) (by omega)
theorem ag_paid (d e len : Nat) (μ w : zMu) (ν : zNu) (x1 x2 x3 : Int32) (hp : 0 ≤ (μ 82 6).toInt ∧ (μ 82 6).toInt ≤ 200) (h6 : w 92 100 = μ 82 6) (h1 : w 161 = μ 88) (h2 : w 162 = μ 89) (h3 : w 163 = μ 90) (h4 : w 164 = μ 91) : ∃ r : Int64, zF zT0 (d + 1) 59 [.ref 82, .int x1, .int x2, .int x3] (zm len μ ν) = some (.long r, zm len μ ν) ∧ zF zT0 (e + 1) 286 [.ref 92, .int x1, .int x2, .int x3] (zm len w ν) = some (.long r, zm len w ν) := by
  have t0 : (0 : Int32).toInt = 0 := rfl
  rw [B_X4_paidFor, B_X12_paidIn]
  exact paid_loop _ _ len μ w ν x1 x2 x3 hp h6 h1 h2 h3 h4 (μ 82 6).toInt.toNat 0 zU zU 0 (by omega) (by omega)
theorem owed_loop (d e len : Nat) (μ w : zMu) (ν : zNu) (a y k3 g : Int32) (hg : 0 ≤ g.toInt ∧ g.toInt ≤ 7) (hy : 0 ≤ y.toInt ∧ y.toInt ≤ 99) (hp : 0 ≤ (μ 82 6).toInt ∧ (μ 82 6).toInt ≤ 200) (h6 : w 92 100 = μ 82 6) (h1 : w 161 = μ 88) (h2 : w 162 = μ 89) (h3 : w 163 = μ 90) (h4 : w 164 = μ 91) (h5 : w 157 = μ 83) (h7 : w 165 = μ 84) : ∀ (k : Nat) (s : Int64) (v v' : Value) (j : Int32), 0 ≤ j.toInt → j.toInt + k = y.toInt + 1 → ∃ r : Int64, zE zc_X4_owedAt (zF zT0 (d + 1)) 69 [.ref 82, .int a, .int y, .int k3, .int g, .long s, v, .int j] [] (zm len μ ν) = some (.long r, zm len μ ν) ∧ zE zc_X12_owed (zF zT0 (e + 1)) 70 [.ref 92, .int a, .int y, .int k3, .long s, v', .int g, .int j] [] (zm len w ν) = some (.long r, zm len w ν) := by
  intro k
  induction k with
  | zero =>
    intro s v v' j h0 hk
    have hc : y < j := by rw [i32_lt]; omega
    exact ⟨s, by rw [B_X4_owedAt_69, if_pos hc], by rw [B_X12_owed_70, if_pos hc]⟩
  | succ k ih =>
    intro s v v' j h0 hk
    have hc : ¬ y < j := by rw [i32_lt]; omega
    have hj : (j + 1).toInt = j.toInt + 1 := i32_add1 (by omega)
    obtain ⟨p, p1, p2⟩ := ag_paid d e len μ w ν a (j - 1) k3 hp h6 h1 h2 h3 h4
    have hb : 0 ≤ g.toInt ∧ g.toInt < ((8 : Nat) : Int) := by omega
    have hx : (100 * g + j).toInt = 100 * g.toInt + j.toInt := idx100 (by omega) (by omega) (by omega) (by omega)
    have hbx : 0 ≤ (100 * g + j).toInt ∧ (100 * g + j).toInt < ((800 : Nat) : Int) := by omega
    rw [B_X4_owedAt_69, B_X12_owed_70]
    simp only [if_neg hc, p1, p2, zbl_some, B_X4_owedAt_88, B_X12_owed_88, B_X12_owed_101, B_X12_owed_135, B_X12_owed_160, B_X4_owedAt_145, if_pos hb, i32_mul100, if_pos hbx, lg_cmp_ge, lg_cmp_le, h5, h7]
    have t0 : (0 : Int64).toInt = 0 := rfl
    have q1 : (0 ≤ s - p) = ¬ (s - p < 0) := by rw [i64_le, i64_lt]; exact propext (by omega)
    have fin : ∀ m : Int64, ∃ r : Int64, (if k3 < j then zE zc_X4_owedAt (zF zT0 (d + 1)) 69 [.ref 82, .int a, .int y, .int k3, .int g, .long m, zclr zU, .int (j + 1)] [] (zm len μ ν) else if μ 84 (100 * g + j).toNatClampNeg = 0 then zE zc_X4_owedAt (zF zT0 (d + 1)) 69 [.ref 82, .int a, .int y, .int k3, .int g, .long m, zclr zU, .int (j + 1)] [] (zm len μ ν) else zE zc_X4_owedAt (zF zT0 (d + 1)) 69 [.ref 82, .int a, .int y, .int k3, .int g, .long 0, zclr zU, .int (j + 1)] [] (zm len μ ν)) = some (.long r, zm len μ ν) ∧ (if k3 < j then zE zc_X12_owed (zF zT0 (e + 1)) 70 [.ref 92, .int a, .int y, .int k3, .long m, zU, .int g, .int (j + 1)] [] (zm len w ν) else if μ 84 (100 * g + j).toNatClampNeg = 0 then zE zc_X12_owed (zF zT0 (e + 1)) 70 [.ref 92, .int a, .int y, .int k3, .long m, zU, .int g, .int (j + 1)] [] (zm len w ν) else zE zc_X12_owed (zF zT0 (e + 1)) 70 [.ref 92, .int a, .int y, .int k3, .long 0, zU, .int g, .int (j + 1)] [] (zm len w ν)) = some (.long r, zm len w ν) := by
      intro m
      by_cases c1 : k3 < j
      · simp only [if_pos c1]
        exact ih _ _ _ (j + 1) (by omega) (by omega)
      · by_cases c2 : μ 84 (100 * g + j).toNatClampNeg = 0
        · simp only [if_neg c1, if_pos c2]
          exact ih _ _ _ (j + 1) (by omega) (by omega)
        · simp only [if_neg c1, if_neg c2]
          exact ih _ _ _ (j + 1) (by omega) (by omega)
    have q2 : ∀ x : Int64, (if x < 999999999999 then x else 999999999999) = if x ≤ 999999999999 then x else 999999999999 := by
      intro x
      by_cases c1 : x < 999999999999
      · rw [if_pos c1, if_pos (by rw [i64_le]; rw [i64_lt] at c1; omega)]
      · rw [if_neg c1]
        by_cases c2 : x ≤ 999999999999
        · rw [if_pos c2]
          rw [i64_le] at c2
          rw [i64_lt] at c1
          rw [i64_eq]
          omega
        · rw [if_neg c2]
    simp only [q1, q2]
    by_cases c1 : s - p < 0
    · simp only [c1, if_true, not_true_eq_false, if_false]
      by_cases c2 : (0 : Int64) + 0 * (μ 83 g.toNatClampNeg).toInt64 / 100 ≤ 999999999999
      · simp only [c2, if_true]
        exact fin _
      · simp only [c2, if_false]
        exact fin _
    · simp only [c1, if_true, not_false_eq_true, if_false]
      by_cases c2 : (s - p) + (s - p) * (μ 83 g.toNatClampNeg).toInt64 / 100 ≤ 999999999999
      · simp only [c2, if_true]
        exact fin _
      · simp only [c2, if_false]
        exact fin _
theorem ag_owed (d len : Nat) (μ : zMu) (ν : zNu) (a b c : Int32) (h : RnlM μ) : ∃ (v : Int64) (μ1 μ2 : zMu), zF zT0 (d + 8) 172 [.ref 1, .int a, .int b, .int c] (zm len μ ν) = some (.long v, zm len μ1 ν) ∧ zF zT0 (d + 8) 287 [.ref 92, .int a, .int b, .int c] (zm len μ1 ν) = some (.long v, zm len μ2 ν) ∧ RnlM μ2 ∧ zfr [] [0] μ μ2 := by
  have hR := h
  obtain ⟨⟨n1, n2, n3⟩, g1, g2, g3, g4, ⟨e1, e2, e3, e4, e5, e6, e7, e8, e9⟩, w1, w2, w3, w4, w5, w6, w7, w8, w9⟩ := h
  have t0 : (0 : Int32).toInt = 0 := rfl
  have t99 : (99 : Int32).toInt = 99 := rfl
  have q0 : (a ≤ μ 82 2 - 1) = (a < μ 82 2) := propext (i32_pred g3.1)
  have er96 : (zup μ 92 0 0) 92 96 = μ 92 96 := rfl
  have er : ∀ r, r ≠ 92 → (zup μ 92 0 0) r = μ r := fun r hr => zup_ne _ _ _ hr
  have f157 := er 157 (by decide)
  have f158 := er 158 (by decide)
  have f159 := er 159 (by decide)
  have f160 := er 160 (by decide)
  by_cases hall : (0 ≤ a ∧ a < μ 82 2) ∧ (0 ≤ b ∧ b ≤ 99) ∧ (0 ≤ c ∧ c ≤ 99) ∧ μ 87 a.toNatClampNeg ≤ b
  · obtain ⟨c0, c1, c2, c3⟩ := hall
    have z1 := c0.1
    have z2 := c0.2
    have z3 := c1.1
    have z4 := c1.2
    have z5 := c3
    rw [i32_le] at z1 z3 z4 z5
    rw [i32_lt] at z2
    have hb : 0 ≤ a.toInt ∧ a.toInt < ((40 : Nat) : Int) := by omega
    have w5a := w5 a.toNatClampNeg
    have w3a := w3 a.toNatClampNeg
    have h1 : (μ 87 a.toNatClampNeg + 1).toInt = (μ 87 a.toNatClampNeg).toInt + 1 := i32_add1 (by omega)
    obtain ⟨r, r1, r2⟩ := owed_loop (d + 5) (d + 6) len μ (zup μ 92 0 0) ν a b c (μ 85 a.toNatClampNeg) w3a ⟨by omega, by omega⟩ g4 g2.symm ((er 161 (by decide)).trans e6.symm) ((er 162 (by decide)).trans e7.symm) ((er 163 (by decide)).trans e8.symm) ((er 164 (by decide)).trans e9.symm) ((er 157 (by decide)).trans e1.symm) ((er 165 (by decide)).trans e2.symm) (b.toInt + 1 - (μ 87 a.toNatClampNeg + 1).toInt).toNat (μ 86 a.toNatClampNeg).toInt64 zU zU (μ 87 a.toNatClampNeg + 1) (by omega) (by omega)
    refine ⟨r, μ, zup μ 92 0 0, ?_, ?_, hR, zfr_92 (zfr_rf _ _ _) (by decide)⟩
    · rw [B_X11_owed]
      simp only [B_X4_owedAt, F_within, B_X4_owedAt_11, F_X11_isYear, B_X4_owedAt_18, B_X4_owedAt_25, B_X11_owed_10, q0, zbl_some, zbi_some, zbi_none, zbi_ite, zb_ite0, zb_or, b01_0, b01_1, b10, or_true, true_or, if_true, if_false, and_self, and_true, true_and, not_true_eq_false, not_false_eq_true, c0, c1, c2, c3, hb, r1]
    · rw [B_X12_owed]
      simp only [F_X12_isLoan, B_X12_owed_10, F_X12_isYear, B_X12_owed_18, B_X12_owed_26, er96, f158, f159, f160, ← g1, ← e5, ← e3, ← e4, q0, zbl_some, zbi_some, zbi_none, zbi_ite, zb_ite0, zb_or, b01_0, b01_1, b10, or_true, true_or, if_true, if_false, and_self, and_true, true_and, not_true_eq_false, not_false_eq_true, c0, c1, c2, c3, hb, r2]
  · refine ⟨-1, μ, zup μ 92 0 0, ?_, ?_, hR, zfr_92 (zfr_rf _ _ _) (by decide)⟩
    · have hb : (0 ≤ a ∧ a < μ 82 2) → 0 ≤ a.toInt ∧ a.toInt < ((40 : Nat) : Int) := by intro z; have z1 := z.1; have z2 := z.2; rw [i32_le] at z1; rw [i32_lt] at z2; omega
      rw [B_X11_owed]
      by_cases c0 : 0 ≤ a ∧ a < μ 82 2 <;> by_cases c1 : 0 ≤ b ∧ b ≤ 99 <;> by_cases c2 : 0 ≤ c ∧ c ≤ 99 <;> by_cases c3 : μ 87 a.toNatClampNeg ≤ b <;> try simp only [B_X4_owedAt, F_within, B_X4_owedAt_11, F_X11_isYear, B_X4_owedAt_18, B_X4_owedAt_25, B_X11_owed_10, q0, zbl_some, zbi_some, zbi_none, zbi_ite, zb_ite0, zb_or, b01_0, b01_1, b10, or_true, true_or, if_true, if_false, and_self, and_true, true_and, not_true_eq_false, not_false_eq_true, c0, c1, c2, c3, hb]
      exact absurd ⟨c0, c1, c2, c3⟩ hall
    · have hb : (0 ≤ a ∧ a < μ 82 2) → 0 ≤ a.toInt ∧ a.toInt < ((40 : Nat) : Int) := by intro z; have z1 := z.1; have z2 := z.2; rw [i32_le] at z1; rw [i32_lt] at z2; omega
      rw [B_X12_owed]
      by_cases c0 : 0 ≤ a ∧ a < μ 82 2 <;> by_cases c1 : 0 ≤ b ∧ b ≤ 99 <;> by_cases c2 : 0 ≤ c ∧ c ≤ 99 <;> by_cases c3 : μ 87 a.toNatClampNeg ≤ b <;> try simp only [F_X12_isLoan, B_X12_owed_10, F_X12_isYear, B_X12_owed_18, B_X12_owed_26, er96, f158, f159, f160, ← g1, ← e5, ← e3, ← e4, q0, zbl_some, zbi_some, zbi_none, zbi_ite, zb_ite0, zb_or, b01_0, b01_1, b10, or_true, true_or, if_true, if_false, and_self, and_true, true_and, not_true_eq_false, not_false_eq_true, c0, c1, c2, c3, hb]
      exact absurd ⟨c0, c1, c2, c3⟩ hall

/-! OWED -/
theorem paid_loop (cx cm : zC) (len : Nat) (μ w : zMu) (ν : zNu) (x1 x2 x3 : Int32) (hp : 0 ≤ (μ 82 6).toInt ∧ (μ 82 6).toInt ≤ 200) (h6 : w 92 100 = μ 82 6) (h1 : w 161 = μ 88) (h2 : w 162 = μ 89) (h3 : w 163 = μ 90) (h4 : w 164 = μ 91) : ∀ (k : Nat) (s : Int64) (v v' : Value) (j : Int32), 0 ≤ j.toInt → j.toInt + k = (μ 82 6).toInt → ∃ r : Int64, zE zc_X4_paidFor cx 6 [.ref 82, .int x1, .int x2, .int x3, .long s, v, .int j] [] (zm len μ ν) = some (.long r, zm len μ ν) ∧ zE zc_X12_paidIn cm 6 [.ref 92, .int x1, .int x2, .int x3, .long s, v', .int j] [] (zm len w ν) = some (.long r, zm len w ν) := by
  intro k
  induction k with
  | zero =>
    intro s v v' j h0 hk
    have hc : μ 82 6 ≤ j := by rw [i32_le]; omega
    exact ⟨s, by rw [B_X4_paidFor_6, if_pos hc], by rw [B_X12_paidIn_6, h6, if_pos hc]⟩
  | succ k ih =>
    intro s v v' j h0 hk
    have hc : ¬ μ 82 6 ≤ j := by rw [i32_le]; omega
    have hb : 0 ≤ j.toInt ∧ j.toInt < ((200 : Nat) : Int) := by omega
    have hj : (j + 1).toInt = j.toInt + 1 := i32_add1 (by omega)
    rw [B_X4_paidFor_6, B_X12_paidIn_6, h6, h1, h2, h3, h4]
    simp only [if_neg hc, if_pos hb]
    by_cases q1 : μ 88 j.toNatClampNeg = x1
    · by_cases q2 : μ 89 j.toNatClampNeg = x2
      · by_cases q3 : x3 < μ 90 j.toNatClampNeg
        · simp only [if_pos q1, if_pos q2, if_pos q3, B_X4_paidFor_61, B_X12_paidIn_61]
          exact ih _ _ _ (j + 1) (by omega) (by omega)
        · simp only [if_pos q1, if_pos q2, if_neg q3, B_X4_paidFor_61, B_X12_paidIn_61]
          exact ih _ _ _ (j + 1) (by omega) (by omega)
      · simp only [if_pos q1, if_neg q2, B_X4_paidFor_61, B_X12_paidIn_61]
        exact ih _ _ _ (j + 1) (by omega) (by omega)
    · simp only [if_neg q1, B_X4_paidFor_61, B_X12_paidIn_61]
      exact ih _ _ _ (j + 1) (by omega) (by omega)
theorem ag_paid (d len : Nat) (μ w : zMu) (ν : zNu) (x1 x2 x3 : Int32) (hp : 0 ≤ (μ 82 6).toInt ∧ (μ 82 6).toInt ≤ 200) (h6 : w 92 100 = μ 82 6) (h1 : w 161 = μ 88) (h2 : w 162 = μ 89) (h3 : w 163 = μ 90) (h4 : w 164 = μ 91) : ∃ r : Int64, zF zT0 (d + 1) 59 [.ref 82, .int x1, .int x2, .int x3] (zm len μ ν) = some (.long r, zm len μ ν) ∧ zF zT0 (d + 1) 286 [.ref 92, .int x1, .int x2, .int x3] (zm len w ν) = some (.long r, zm len w ν) := by
  have t0 : (0 : Int32).toInt = 0 := rfl
  rw [B_X4_paidFor, B_X12_paidIn]
  exact paid_loop _ _ len μ w ν x1 x2 x3 hp h6 h1 h2 h3 h4 (μ 82 6).toInt.toNat 0 zU zU 0 (by omega) (by omega)

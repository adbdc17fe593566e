/-! PLAIN CALLS of the flocks and the people -/
theorem idx3 {a b : Int32} (h1 : 0 ≤ a.toInt) (h2 : a.toInt ≤ 1000) (h3 : 0 ≤ b.toInt) (h4 : b.toInt ≤ 1000) : (3 * a + b).toInt = 3 * a.toInt + b.toInt := by
  have t : (3 : Int32).toInt = 3 := rfl
  have e : (3 * a).toInt = 3 * a.toInt := by rw [i32_mul (by rw [t]; omega) (by rw [t]; omega), t]
  rw [i32_add] <;> omega
theorem idx3' {a : Int32} (h1 : 0 ≤ a.toInt) (h2 : a.toInt ≤ 1000) : (3 * a).toInt = 3 * a.toInt := by
  have t : (3 : Int32).toInt = 3 := rfl
  rw [i32_mul (by rw [t]; omega) (by rw [t]; omega), t]
theorem idx5 {a b : Int32} (h1 : 0 ≤ a.toInt) (h2 : a.toInt ≤ 1000) (h3 : 0 ≤ b.toInt) (h4 : b.toInt ≤ 1000) : (5 * a + b).toInt = 5 * a.toInt + b.toInt := by
  have t : (5 : Int32).toInt = 5 := rfl
  have e : (5 * a).toInt = 5 * a.toInt := by rw [i32_mul (by rw [t]; omega) (by rw [t]; omega), t]
  rw [i32_add] <;> omega
theorem idx100 {a b : Int32} (h1 : 0 ≤ a.toInt) (h2 : a.toInt ≤ 1000) (h3 : 0 ≤ b.toInt) (h4 : b.toInt ≤ 1000) : (100 * a + b).toInt = 100 * a.toInt + b.toInt := by
  have t : (100 : Int32).toInt = 100 := rfl
  have e : (100 * a).toInt = 100 * a.toInt := by rw [i32_mul (by rw [t]; omega) (by rw [t]; omega), t]
  rw [i32_add] <;> omega
theorem i32_mul3 (x : Int32) : x * 3 = 3 * x := by rw [Int32.mul_comm]
theorem i32_mul100 (x : Int32) : x * 100 = 100 * x := by rw [Int32.mul_comm]
theorem zrdN (μ : zMu) {r a : Nat} (i j : Nat) (v : Int32) (h : a ≠ r) : zup μ r i v a j = μ a j := by rw [zup_ne μ i v h]
theorem zrdS (μ : zMu) (r i j : Nat) (v : Int32) : zup μ r i v r j = upd (μ r) i v j := by rw [zup_self]
theorem znar31 : znar 3 1 = 1 := rfl
def Rflock (ra la ca fa rm lm cm fm : Int32) (r75 r149 r76 r150 r77 r151 r78 r152 r79 r153 r80 r154 : Nat → Int32) : Prop :=
  ra = rm ∧ la = lm ∧ ca = cm ∧ fa = fm ∧ (0 ≤ ra.toInt ∧ ra.toInt ≤ 200) ∧ (0 ≤ la.toInt ∧ la.toInt ≤ 100) ∧ (0 ≤ ca.toInt ∧ ca.toInt ≤ 6) ∧ (0 ≤ fa.toInt ∧ fa.toInt ≤ 100) ∧
  (r75 = r149 ∧ r76 = r150 ∧ r77 = r151 ∧ r78 = r152 ∧ r79 = r153 ∧ r80 = r154) ∧
  zin2 r75 0 99 ∧ zin2 r76 0 9999 ∧ zin2 r77 0 5 ∧ zin2 r78 0 99 ∧ zin2 r79 0 99 ∧ zin2 r80 0 9999
abbrev RflockM (μ : zMu) : Prop := Rflock (μ 74 0) (μ 74 1) (μ 74 2) (μ 74 5) (μ 92 83) (μ 92 84) (μ 92 85) (μ 92 88) (μ 75) (μ 149) (μ 76) (μ 150) (μ 77) (μ 151) (μ 78) (μ 152) (μ 79) (μ 153) (μ 80) (μ 154)
abbrev RnfM (μ : zMu) : Prop := RnowM μ ∧ RflockM μ
/-- how many of the first n are x -/
def zcnt (f : Nat → Int32) (x : Int32) : Nat → Nat
  | 0 => 0
  | n + 1 => zcnt f x n + if f n = x then 1 else 0
theorem zcnt_le (f : Nat → Int32) (x : Int32) : ∀ n, zcnt f x n ≤ n
  | 0 => Nat.le_refl 0
  | n + 1 => by
    have h := zcnt_le f x n
    show zcnt f x n + (if f n = x then 1 else 0) ≤ n + 1
    split <;> omega
theorem zcnt_upd (f : Nat → Int32) (x y : Int32) (k : Nat) : ∀ n, n ≤ k → zcnt (upd f k y) x n = zcnt f x n
  | 0, _ => rfl
  | n + 1, h => by
    show zcnt (upd f k y) x n + (if upd f k y n = x then 1 else 0) = zcnt f x n + (if f n = x then 1 else 0)
    rw [zcnt_upd f x y k n (by omega), upd_ne _ _ (show n ≠ k by omega)]
theorem F_canBeTold (d len : Nat) (μ : zMu) (ν : zNu) (x y w : Int32) : zF zT0 (d + 2) 29 [.int x, .int y, .int w] (zm len μ ν) = some (.int (zb ((0 ≤ x ∧ x ≤ 9999) ∧ (0 ≤ y ∧ y ≤ 9999) ∧ (0 ≤ w ∧ w ≤ 9999))), zm len μ ν) := by
  rw [B_X2_canBeTold]
  simp only [F_within, zbi_some, B_X2_canBeTold_8, B_X2_canBeTold_19, B_X2_canBeTold_30, zb_ite0]
  by_cases c1 : 0 ≤ x ∧ x ≤ 9999 <;> by_cases c2 : 0 ≤ y ∧ y ≤ 9999 <;> by_cases c3 : 0 ≤ w ∧ w ≤ 9999 <;> simp only [zb, c1, c2, c3, if_true, if_false, and_self, and_true, true_and, and_false, false_and]
theorem ag_book (d len : Nat) (μ : zMu) (ν : zNu) (a : Int32) (b : Int32) (h : RnfM μ) : ∃ (v : Int32) (μ1 μ2 : zMu), zF zT0 (d + 8) 164 [.ref 1, .int a, .int b] (zm len μ ν) = some (.int v, zm len μ1 ν) ∧ zF zT0 (d + 8) 272 [.ref 92, .int a, .int b] (zm len μ1 ν) = some (.int v, zm len μ2 ν) ∧ RnfM μ2 ∧ zfr [74] [0, 83, 84] μ μ2 := by
  have hR := h
  obtain ⟨⟨n1, n2, n3⟩, g1, g2, g3, g4, v1, v2, v3, v4, ⟨e1, e2, e3, e4, e5, e6⟩, w1, w2, w3, w4, w5, w6⟩ := h
  by_cases hall : (0 ≤ a ∧ a ≤ 200) ∧ (0 ≤ b ∧ b ≤ 100)
  · obtain ⟨c1, c2⟩ := hall
    refine ⟨1, (zup (zup μ 74 0 a) 74 1 b), (zup (zup (zup (zup (zup μ 74 0 a) 74 1 b) 92 0 0) 92 83 a) 92 84 b), ?_, ?_, ?_, ?_⟩
    · rw [B_X11_book]
      simp only [B_X2_setBook, F_within, B_X2_setBook_8, B_X2_setBook_18, B_X11_book_9, c1, c2, zbi_some, zbi_none, zbi_ite, zb_ite0, zb_or, b01_0, b01_1, b10, zrdS, zrdN, upd_eq, upd_ne, ne_eq, Nat.reduceEqDiff, or_true, true_or, if_true, if_false, and_self, and_true, true_and, not_true_eq_false, not_false_eq_true]
      all_goals rfl
    · rw [B_X12_book]
      simp only [F_isIn, B_X12_book_14, B_X12_book_25, c1, c2, zbi_some, zbi_none, zbi_ite, zb_ite0, zb_or, b01_0, b01_1, b10, zrdS, zrdN, upd_eq, upd_ne, ne_eq, Nat.reduceEqDiff, or_true, true_or, if_true, if_false, and_self, and_true, true_and, not_true_eq_false, not_false_eq_true]
      all_goals rfl
    · show Rnow (μ 1 11) (μ 92 1) ∧ Rflock a b (μ 74 2) (μ 74 5) a b (μ 92 85) (μ 92 88) (μ 75) (μ 149) (μ 76) (μ 150) (μ 77) (μ 151) (μ 78) (μ 152) (μ 79) (μ 153) (μ 80) (μ 154)
      have k1 := c1.1
      have k2 := c1.2
      have k3 := c2.1
      have k4 := c2.2
      have t0 : (0 : Int32).toInt = 0 := rfl
      have t100 : (100 : Int32).toInt = 100 := rfl
      have t200 : (200 : Int32).toInt = 200 := rfl
      rw [i32_le] at k1 k2 k3 k4
      exact ⟨⟨n1, n2, n3⟩, rfl, rfl, g3, g4, (by omega), (by omega), v3, v4, ⟨e1, e2, e3, e4, e5, e6⟩, w1, w2, w3, w4, w5, w6⟩
    · exact zfr_92 (zfr_92 (zfr_92 (zfr_up (zfr_up (zfr_rf _ _ _) (by decide) (by decide)) (by decide) (by decide)) (by decide)) (by decide)) (by decide)
  · refine ⟨0, μ, zup μ 92 0 0, ?_, ?_, hR, zfr_92 (zfr_rf _ _ _) (by decide)⟩
    · rw [B_X11_book]
      by_cases c1 : 0 ≤ a ∧ a ≤ 200 <;> by_cases c2 : 0 ≤ b ∧ b ≤ 100 <;> try simp only [B_X2_setBook, F_within, B_X2_setBook_8, B_X2_setBook_18, B_X11_book_9, c1, c2, zbi_some, zbi_none, zbi_ite, zb_ite0, zb_or, b01_0, b01_1, b10, zrdS, zrdN, upd_eq, upd_ne, ne_eq, Nat.reduceEqDiff, or_true, true_or, if_true, if_false, and_self, and_true, true_and, not_true_eq_false, not_false_eq_true]
      exact absurd ⟨c1, c2⟩ hall
    · rw [B_X12_book]
      by_cases c1 : 0 ≤ a ∧ a ≤ 200 <;> by_cases c2 : 0 ≤ b ∧ b ≤ 100 <;> try simp only [F_isIn, B_X12_book_14, B_X12_book_25, c1, c2, zbi_some, zbi_none, zbi_ite, zb_ite0, zb_or, b01_0, b01_1, b10, zrdS, zrdN, upd_eq, upd_ne, ne_eq, Nat.reduceEqDiff, or_true, true_or, if_true, if_false, and_self, and_true, true_and, not_true_eq_false, not_false_eq_true]
      exact absurd ⟨c1, c2⟩ hall

theorem ag_flock (d len : Nat) (μ : zMu) (ν : zNu) (a : Int32) (b : Int32) (c : Int32) (h : RnfM μ) : ∃ (v : Int32) (μ1 μ2 : zMu), zF zT0 (d + 8) 165 [.ref 1, .int a, .int b, .int c] (zm len μ ν) = some (.int v, zm len μ1 ν) ∧ zF zT0 (d + 8) 273 [.ref 92, .int a, .int b, .int c] (zm len μ1 ν) = some (.int v, zm len μ2 ν) ∧ RnfM μ2 ∧ zfr [74, 75, 76, 149, 150] [0, 85] μ μ2 := by
  have hR := h
  obtain ⟨⟨n1, n2, n3⟩, g1, g2, g3, g4, v1, v2, v3, v4, ⟨e1, e2, e3, e4, e5, e6⟩, w1, w2, w3, w4, w5, w6⟩ := h
  have q2 : ((6 : Int32) ≤ μ 74 2) = ¬ (μ 74 2 < 6) := propext ⟨fun q z => i32_nle.mpr z q, fun q => i32_nlt.mp q⟩
  have q3 : (μ 74 2 = 6) = ¬ (μ 74 2 < 6) := by have t8 : (6 : Int32).toInt = 6 := rfl; rw [i32_lt, i32_eq]; apply propext; omega
  have b0 : μ 74 2 < 6 → 0 ≤ (μ 74 2).toInt ∧ (μ 74 2).toInt < ((6 : Nat) : Int) := by intro z; rw [i32_lt] at z; have y0 : (0 : Int32).toInt = 0 := rfl; have y1 : (1 : Int32).toInt = 1 := rfl; have y2 : (2 : Int32).toInt = 2 := rfl; have y6 : (6 : Int32).toInt = 6 := rfl; have y100 : (100 : Int32).toInt = 100 := rfl; omega
  have b1 : μ 74 2 < 6 → 0 ≤ (3 * (μ 74 2)).toInt ∧ (3 * (μ 74 2)).toInt < ((18 : Nat) : Int) := by intro z; rw [i32_lt] at z; have y0 : (0 : Int32).toInt = 0 := rfl; have y1 : (1 : Int32).toInt = 1 := rfl; have y2 : (2 : Int32).toInt = 2 := rfl; have y6 : (6 : Int32).toInt = 6 := rfl; have y100 : (100 : Int32).toInt = 100 := rfl; rw [idx3' (by omega) (by omega)]; omega
  have b2 : μ 74 2 < 6 → 0 ≤ (3 * (μ 74 2) + 1).toInt ∧ (3 * (μ 74 2) + 1).toInt < ((18 : Nat) : Int) := by intro z; rw [i32_lt] at z; have y0 : (0 : Int32).toInt = 0 := rfl; have y1 : (1 : Int32).toInt = 1 := rfl; have y2 : (2 : Int32).toInt = 2 := rfl; have y6 : (6 : Int32).toInt = 6 := rfl; have y100 : (100 : Int32).toInt = 100 := rfl; rw [idx3 (by omega) (by omega) (by omega) (by omega)]; omega
  have b3 : μ 74 2 < 6 → 0 ≤ (3 * (μ 74 2) + 2).toInt ∧ (3 * (μ 74 2) + 2).toInt < ((18 : Nat) : Int) := by intro z; rw [i32_lt] at z; have y0 : (0 : Int32).toInt = 0 := rfl; have y1 : (1 : Int32).toInt = 1 := rfl; have y2 : (2 : Int32).toInt = 2 := rfl; have y6 : (6 : Int32).toInt = 6 := rfl; have y100 : (100 : Int32).toInt = 100 := rfl; rw [idx3 (by omega) (by omega) (by omega) (by omega)]; omega
  by_cases hall : (μ 74 2 < 6) ∧ (0 ≤ a ∧ a ≤ 9999) ∧ (0 ≤ b ∧ b ≤ 9999) ∧ (0 ≤ c ∧ c ≤ 9999)
  · obtain ⟨c0, c1, c2, c3⟩ := hall
    refine ⟨μ 74 2 + 1 - 1, (zup (zup (zup (zup (zup μ 75 (μ 74 2).toNatClampNeg (μ 1 11)) 76 (3 * (μ 74 2)).toNatClampNeg a) 76 (3 * (μ 74 2) + 1).toNatClampNeg b) 76 (3 * (μ 74 2) + 2).toNatClampNeg c) 74 2 (μ 74 2 + 1)), (zup (zup (zup (zup (zup (zup (zup (zup (zup (zup (zup μ 75 (μ 74 2).toNatClampNeg (μ 1 11)) 76 (3 * (μ 74 2)).toNatClampNeg a) 76 (3 * (μ 74 2) + 1).toNatClampNeg b) 76 (3 * (μ 74 2) + 2).toNatClampNeg c) 74 2 (μ 74 2 + 1)) 92 0 0) 150 (3 * (μ 74 2)).toNatClampNeg a) 150 (3 * (μ 74 2) + 1).toNatClampNeg b) 150 (3 * (μ 74 2) + 2).toNatClampNeg c) 149 (μ 74 2).toNatClampNeg (μ 1 11)) 92 85 (μ 74 2 + 1)), ?_, ?_, ?_, ?_⟩
    · rw [B_X11_flock]
      simp only [B_X2_add, F_canBeTold, B_X2_add_16, B_X11_flock_14, i32_mul3, q2, q3, b0, b1, b2, b3, c0, c1, c2, c3, zbi_some, zbi_none, zbi_ite, zb_ite0, zb_or, b01_0, b01_1, b10, zrdS, zrdN, upd_eq, upd_ne, ne_eq, Nat.reduceEqDiff, or_true, true_or, if_true, if_false, and_self, and_true, true_and, not_true_eq_false, not_false_eq_true]
      all_goals rfl
    · rw [B_X12_flock]
      have er92_1 : (zup (zup (zup (zup (zup (zup μ 75 (μ 74 2).toNatClampNeg (μ 1 11)) 76 (3 * (μ 74 2)).toNatClampNeg a) 76 (3 * (μ 74 2) + 1).toNatClampNeg b) 76 (3 * (μ 74 2) + 2).toNatClampNeg c) 74 2 (μ 74 2 + 1)) 92 0 0) 92 1 = μ 92 1 := rfl
      have er92_85 : (zup (zup (zup (zup (zup (zup μ 75 (μ 74 2).toNatClampNeg (μ 1 11)) 76 (3 * (μ 74 2)).toNatClampNeg a) 76 (3 * (μ 74 2) + 1).toNatClampNeg b) 76 (3 * (μ 74 2) + 2).toNatClampNeg c) 74 2 (μ 74 2 + 1)) 92 0 0) 92 85 = μ 92 85 := rfl
      simp only [F_X12_isHerd, B_X12_flock_10, B_X12_flock_18, B_X12_flock_26, B_X12_flock_103, ← n1, ← g3, q2, q3, b0, b1, b2, b3, er92_1, er92_85, c0, c1, c2, c3, zbi_some, zbi_none, zbi_ite, zb_ite0, zb_or, b01_0, b01_1, b10, zrdS, zrdN, upd_eq, upd_ne, ne_eq, Nat.reduceEqDiff, or_true, true_or, if_true, if_false, and_self, and_true, true_and, not_true_eq_false, not_false_eq_true]
      all_goals rfl
    · show Rnow (μ 1 11) (μ 92 1) ∧ Rflock (μ 74 0) (μ 74 1) (μ 74 2 + 1) (μ 74 5) (μ 92 83) (μ 92 84) (μ 74 2 + 1) (μ 92 88) (upd (μ 75) (μ 74 2).toNatClampNeg (μ 1 11)) (upd (μ 149) (μ 74 2).toNatClampNeg (μ 1 11)) (upd (upd (upd (μ 76) (3 * (μ 74 2)).toNatClampNeg a) (3 * (μ 74 2) + 1).toNatClampNeg b) (3 * (μ 74 2) + 2).toNatClampNeg c) (upd (upd (upd (μ 150) (3 * (μ 74 2)).toNatClampNeg a) (3 * (μ 74 2) + 1).toNatClampNeg b) (3 * (μ 74 2) + 2).toNatClampNeg c) (μ 77) (μ 151) (μ 78) (μ 152) (μ 79) (μ 153) (μ 80) (μ 154)
      have k1 := c1.1
      have k2 := c1.2
      have k3 := c2.1
      have k4 := c2.2
      have k5 := c3.1
      have k6 := c3.2
      have t0 : (0 : Int32).toInt = 0 := rfl
      have t1 : (1 : Int32).toInt = 1 := rfl
      have t6 : (6 : Int32).toInt = 6 := rfl
      have t9999 : (9999 : Int32).toInt = 9999 := rfl
      rw [i32_le] at k1 k2 k3 k4 k5 k6
      rw [i32_lt] at c0
      have e : (μ 74 2 + 1).toInt = (μ 74 2).toInt + 1 := by rw [i32_add] <;> omega
      exact ⟨⟨n1, n2, n3⟩, g1, g2, rfl, g4, v1, v2, (by omega), v4, ⟨(by rw [e1]), (by rw [e2]), e3, e4, e5, e6⟩, zin2_upd w1 (by omega) (by omega), zin2_upd (zin2_upd (zin2_upd w2 (by omega) (by omega)) (by omega) (by omega)) (by omega) (by omega), w3, w4, w5, w6⟩
    · exact zfr_92 (zfr_up (zfr_up (zfr_up (zfr_up (zfr_92 (zfr_up (zfr_up (zfr_up (zfr_up (zfr_up (zfr_rf _ _ _) (by decide) (by decide)) (by decide) (by decide)) (by decide) (by decide)) (by decide) (by decide)) (by decide) (by decide)) (by decide)) (by decide) (by decide)) (by decide) (by decide)) (by decide) (by decide)) (by decide) (by decide)) (by decide)
  · refine ⟨(-1), μ, zup μ 92 0 0, ?_, ?_, hR, zfr_92 (zfr_rf _ _ _) (by decide)⟩
    · rw [B_X11_flock]
      by_cases c0 : μ 74 2 < 6 <;> by_cases c1 : 0 ≤ a ∧ a ≤ 9999 <;> by_cases c2 : 0 ≤ b ∧ b ≤ 9999 <;> by_cases c3 : 0 ≤ c ∧ c ≤ 9999 <;> try simp only [B_X2_add, F_canBeTold, B_X2_add_16, B_X11_flock_14, i32_mul3, q2, q3, b0, b1, b2, b3, c0, c1, c2, c3, zbi_some, zbi_none, zbi_ite, zb_ite0, zb_or, b01_0, b01_1, b10, zrdS, zrdN, upd_eq, upd_ne, ne_eq, Nat.reduceEqDiff, or_true, true_or, if_true, if_false, and_self, and_true, true_and, not_true_eq_false, not_false_eq_true]
      exact absurd ⟨c0, c1, c2, c3⟩ hall
    · rw [B_X12_flock]
      have er92_1 : (zup μ 92 0 0) 92 1 = μ 92 1 := rfl
      have er92_85 : (zup μ 92 0 0) 92 85 = μ 92 85 := rfl
      by_cases c0 : μ 74 2 < 6 <;> by_cases c1 : 0 ≤ a ∧ a ≤ 9999 <;> by_cases c2 : 0 ≤ b ∧ b ≤ 9999 <;> by_cases c3 : 0 ≤ c ∧ c ≤ 9999 <;> try simp only [F_X12_isHerd, B_X12_flock_10, B_X12_flock_18, B_X12_flock_26, B_X12_flock_103, ← n1, ← g3, q2, q3, b0, b1, b2, b3, er92_1, er92_85, c0, c1, c2, c3, zbi_some, zbi_none, zbi_ite, zb_ite0, zb_or, b01_0, b01_1, b10, zrdS, zrdN, upd_eq, upd_ne, ne_eq, Nat.reduceEqDiff, or_true, true_or, if_true, if_false, and_self, and_true, true_and, not_true_eq_false, not_false_eq_true]
      exact absurd ⟨c0, c1, c2, c3⟩ hall

theorem ag_found (d len : Nat) (μ : zMu) (ν : zNu) (a : Int32) (b : Int32) (c : Int32) (e : Int32) (f : Int32) (h : RnfM μ) : ∃ (v : Int32) (μ1 μ2 : zMu), zF zT0 (d + 8) 166 [.ref 1, .int a, .int b, .int c, .int e, .int f] (zm len μ ν) = some (.int v, zm len μ1 ν) ∧ zF zT0 (d + 8) 275 [.ref 92, .int a, .int b, .int c, .int e, .int f] (zm len μ1 ν) = some (.int v, zm len μ2 ν) ∧ RnfM μ2 ∧ zfr [74, 77, 78, 79, 80, 151, 152, 153, 154] [0, 88] μ μ2 := by
  have hR := h
  obtain ⟨⟨n1, n2, n3⟩, g1, g2, g3, g4, v1, v2, v3, v4, ⟨e1, e2, e3, e4, e5, e6⟩, w1, w2, w3, w4, w5, w6⟩ := h
  have q0 : (a ≤ μ 74 2 - 1) = (a < μ 74 2) := propext (i32_pred v3.1)
  have q2 : ((100 : Int32) ≤ μ 74 5) = ¬ (μ 74 5 < 100) := propext ⟨fun q z => i32_nle.mpr z q, fun q => i32_nlt.mp q⟩
  have q3 : (μ 74 5 = 100) = ¬ (μ 74 5 < 100) := by have t8 : (100 : Int32).toInt = 100 := rfl; rw [i32_lt, i32_eq]; apply propext; omega
  have q4 : (b ≤ μ 75 a.toNatClampNeg) = ¬ (μ 75 a.toNatClampNeg < b) := propext ⟨fun q z => i32_nle.mpr z q, fun q => i32_nlt.mp q⟩
  have q5 : (μ 75 a.toNatClampNeg + 1 ≤ b) = (μ 75 a.toNatClampNeg < b) := by have w := w1 a.toNatClampNeg; have t8 : (1 : Int32).toInt = 1 := rfl; have ee : (μ 75 a.toNatClampNeg + 1).toInt = (μ 75 a.toNatClampNeg).toInt + 1 := (by rw [i32_add] <;> omega); rw [i32_lt, i32_le, ee]; all_goals exact propext (by omega)
  have ba : (0 ≤ a ∧ a < μ 74 2) → 0 ≤ a.toInt ∧ a.toInt < ((6 : Nat) : Int) := by intro z; have z1 := z.1; have z2 := z.2; rw [i32_le] at z1; rw [i32_lt] at z2; have y0 : (0 : Int32).toInt = 0 := rfl; omega
  have b0 : μ 74 5 < 100 → 0 ≤ (μ 74 5).toInt ∧ (μ 74 5).toInt < ((100 : Nat) : Int) := by intro z; rw [i32_lt] at z; have y0 : (0 : Int32).toInt = 0 := rfl; have y1 : (1 : Int32).toInt = 1 := rfl; have y2 : (2 : Int32).toInt = 2 := rfl; have y6 : (6 : Int32).toInt = 6 := rfl; have y100 : (100 : Int32).toInt = 100 := rfl; omega
  have b1 : μ 74 5 < 100 → 0 ≤ (3 * (μ 74 5)).toInt ∧ (3 * (μ 74 5)).toInt < ((300 : Nat) : Int) := by intro z; rw [i32_lt] at z; have y0 : (0 : Int32).toInt = 0 := rfl; have y1 : (1 : Int32).toInt = 1 := rfl; have y2 : (2 : Int32).toInt = 2 := rfl; have y6 : (6 : Int32).toInt = 6 := rfl; have y100 : (100 : Int32).toInt = 100 := rfl; rw [idx3' (by omega) (by omega)]; omega
  have b2 : μ 74 5 < 100 → 0 ≤ (3 * (μ 74 5) + 1).toInt ∧ (3 * (μ 74 5) + 1).toInt < ((300 : Nat) : Int) := by intro z; rw [i32_lt] at z; have y0 : (0 : Int32).toInt = 0 := rfl; have y1 : (1 : Int32).toInt = 1 := rfl; have y2 : (2 : Int32).toInt = 2 := rfl; have y6 : (6 : Int32).toInt = 6 := rfl; have y100 : (100 : Int32).toInt = 100 := rfl; rw [idx3 (by omega) (by omega) (by omega) (by omega)]; omega
  have b3 : μ 74 5 < 100 → 0 ≤ (3 * (μ 74 5) + 2).toInt ∧ (3 * (μ 74 5) + 2).toInt < ((300 : Nat) : Int) := by intro z; rw [i32_lt] at z; have y0 : (0 : Int32).toInt = 0 := rfl; have y1 : (1 : Int32).toInt = 1 := rfl; have y2 : (2 : Int32).toInt = 2 := rfl; have y6 : (6 : Int32).toInt = 6 := rfl; have y100 : (100 : Int32).toInt = 100 := rfl; rw [idx3 (by omega) (by omega) (by omega) (by omega)]; omega
  by_cases hall : (0 ≤ a ∧ a < μ 74 2) ∧ (μ 74 5 < 100) ∧ (0 ≤ c ∧ c ≤ 9999) ∧ (0 ≤ e ∧ e ≤ 9999) ∧ (0 ≤ f ∧ f ≤ 9999) ∧ (μ 75 a.toNatClampNeg < b) ∧ (b ≤ μ 1 11)
  · obtain ⟨c0, c1, c2, c3, c4, c5, c6⟩ := hall
    refine ⟨1, (zup (zup (zup (zup (zup (zup (zup μ 77 (μ 74 5).toNatClampNeg a) 78 (μ 74 5).toNatClampNeg b) 79 (μ 74 5).toNatClampNeg (μ 1 11)) 80 (3 * (μ 74 5)).toNatClampNeg c) 80 (3 * (μ 74 5) + 1).toNatClampNeg e) 80 (3 * (μ 74 5) + 2).toNatClampNeg f) 74 5 (μ 74 5 + 1)), (zup (zup (zup (zup (zup (zup (zup (zup (zup (zup (zup (zup (zup (zup (zup μ 77 (μ 74 5).toNatClampNeg a) 78 (μ 74 5).toNatClampNeg b) 79 (μ 74 5).toNatClampNeg (μ 1 11)) 80 (3 * (μ 74 5)).toNatClampNeg c) 80 (3 * (μ 74 5) + 1).toNatClampNeg e) 80 (3 * (μ 74 5) + 2).toNatClampNeg f) 74 5 (μ 74 5 + 1)) 92 0 0) 151 (μ 74 5).toNatClampNeg a) 152 (μ 74 5).toNatClampNeg b) 153 (μ 74 5).toNatClampNeg (μ 1 11)) 154 (3 * (μ 74 5)).toNatClampNeg c) 154 (3 * (μ 74 5) + 1).toNatClampNeg e) 154 (3 * (μ 74 5) + 2).toNatClampNeg f) 92 88 (μ 74 5 + 1)), ?_, ?_, ?_, ?_⟩
    · rw [B_X11_found]
      simp only [B_X2_addFound, F_within, B_X2_addFound_11, F_canBeTold, B_X2_addFound_32, B_X2_addFound_112, B_X11_found_18, i32_mul3, q0, q2, q3, q4, q5, ba, b0, b1, b2, b3, c0, c1, c2, c3, c4, c5, c6, zbi_some, zbi_none, zbi_ite, zb_ite0, zb_or, b01_0, b01_1, b10, zrdS, zrdN, upd_eq, upd_ne, ne_eq, Nat.reduceEqDiff, or_true, true_or, if_true, if_false, and_self, and_true, true_and, not_true_eq_false, not_false_eq_true]
      all_goals rfl
    · rw [B_X12_found]
      have er92_1 : (zup (zup (zup (zup (zup (zup (zup (zup μ 77 (μ 74 5).toNatClampNeg a) 78 (μ 74 5).toNatClampNeg b) 79 (μ 74 5).toNatClampNeg (μ 1 11)) 80 (3 * (μ 74 5)).toNatClampNeg c) 80 (3 * (μ 74 5) + 1).toNatClampNeg e) 80 (3 * (μ 74 5) + 2).toNatClampNeg f) 74 5 (μ 74 5 + 1)) 92 0 0) 92 1 = μ 92 1 := rfl
      have er92_85 : (zup (zup (zup (zup (zup (zup (zup (zup μ 77 (μ 74 5).toNatClampNeg a) 78 (μ 74 5).toNatClampNeg b) 79 (μ 74 5).toNatClampNeg (μ 1 11)) 80 (3 * (μ 74 5)).toNatClampNeg c) 80 (3 * (μ 74 5) + 1).toNatClampNeg e) 80 (3 * (μ 74 5) + 2).toNatClampNeg f) 74 5 (μ 74 5 + 1)) 92 0 0) 92 85 = μ 92 85 := rfl
      have er92_88 : (zup (zup (zup (zup (zup (zup (zup (zup μ 77 (μ 74 5).toNatClampNeg a) 78 (μ 74 5).toNatClampNeg b) 79 (μ 74 5).toNatClampNeg (μ 1 11)) 80 (3 * (μ 74 5)).toNatClampNeg c) 80 (3 * (μ 74 5) + 1).toNatClampNeg e) 80 (3 * (μ 74 5) + 2).toNatClampNeg f) 74 5 (μ 74 5 + 1)) 92 0 0) 92 88 = μ 92 88 := rfl
      have er149 : (zup (zup (zup (zup (zup (zup (zup (zup μ 77 (μ 74 5).toNatClampNeg a) 78 (μ 74 5).toNatClampNeg b) 79 (μ 74 5).toNatClampNeg (μ 1 11)) 80 (3 * (μ 74 5)).toNatClampNeg c) 80 (3 * (μ 74 5) + 1).toNatClampNeg e) 80 (3 * (μ 74 5) + 2).toNatClampNeg f) 74 5 (μ 74 5 + 1)) 92 0 0) 149 = μ 149 := rfl
      simp only [F_X12_isFlock, B_X12_found_10, F_isIn, B_X12_found_30, F_X12_isHerd, B_X12_found_38, B_X12_found_47, B_X12_found_56, B_X12_found_145, ← n1, ← g3, ← g4, ← e1, q0, q2, q3, q4, q5, ba, b0, b1, b2, b3, er92_1, er92_85, er92_88, er149, c0, c1, c2, c3, c4, c5, c6, zbi_some, zbi_none, zbi_ite, zb_ite0, zb_or, b01_0, b01_1, b10, zrdS, zrdN, upd_eq, upd_ne, ne_eq, Nat.reduceEqDiff, or_true, true_or, if_true, if_false, and_self, and_true, true_and, not_true_eq_false, not_false_eq_true]
      all_goals rfl
    · show Rnow (μ 1 11) (μ 92 1) ∧ Rflock (μ 74 0) (μ 74 1) (μ 74 2) (μ 74 5 + 1) (μ 92 83) (μ 92 84) (μ 92 85) (μ 74 5 + 1) (μ 75) (μ 149) (μ 76) (μ 150) (upd (μ 77) (μ 74 5).toNatClampNeg a) (upd (μ 151) (μ 74 5).toNatClampNeg a) (upd (μ 78) (μ 74 5).toNatClampNeg b) (upd (μ 152) (μ 74 5).toNatClampNeg b) (upd (μ 79) (μ 74 5).toNatClampNeg (μ 1 11)) (upd (μ 153) (μ 74 5).toNatClampNeg (μ 1 11)) (upd (upd (upd (μ 80) (3 * (μ 74 5)).toNatClampNeg c) (3 * (μ 74 5) + 1).toNatClampNeg e) (3 * (μ 74 5) + 2).toNatClampNeg f) (upd (upd (upd (μ 154) (3 * (μ 74 5)).toNatClampNeg c) (3 * (μ 74 5) + 1).toNatClampNeg e) (3 * (μ 74 5) + 2).toNatClampNeg f)
      have k1 := c2.1
      have k2 := c2.2
      have k3 := c3.1
      have k4 := c3.2
      have k5 := c4.1
      have k6 := c4.2
      have k7 := c0.1
      have k8 := c0.2
      have t0 : (0 : Int32).toInt = 0 := rfl
      have t1 : (1 : Int32).toInt = 1 := rfl
      have t6 : (6 : Int32).toInt = 6 := rfl
      have t100 : (100 : Int32).toInt = 100 := rfl
      have t9999 : (9999 : Int32).toInt = 9999 := rfl
      have w1a := w1 a.toNatClampNeg
      rw [i32_le] at k1 k2 k3 k4 k5 k6 k7 c6
      rw [i32_lt] at c1 c5 k8
      have ee : (μ 74 5 + 1).toInt = (μ 74 5).toInt + 1 := by rw [i32_add] <;> omega
      exact ⟨⟨n1, n2, n3⟩, g1, g2, g3, rfl, v1, v2, v3, (by omega), ⟨e1, e2, (by rw [e3]), (by rw [e4]), (by rw [e5]), (by rw [e6])⟩, w1, w2, zin2_upd w3 (by omega) (by omega), zin2_upd w4 (by omega) (by omega), zin2_upd w5 (by omega) (by omega), zin2_upd (zin2_upd (zin2_upd w6 (by omega) (by omega)) (by omega) (by omega)) (by omega) (by omega)⟩
    · exact zfr_92 (zfr_up (zfr_up (zfr_up (zfr_up (zfr_up (zfr_up (zfr_92 (zfr_up (zfr_up (zfr_up (zfr_up (zfr_up (zfr_up (zfr_up (zfr_rf _ _ _) (by decide) (by decide)) (by decide) (by decide)) (by decide) (by decide)) (by decide) (by decide)) (by decide) (by decide)) (by decide) (by decide)) (by decide) (by decide)) (by decide)) (by decide) (by decide)) (by decide) (by decide)) (by decide) (by decide)) (by decide) (by decide)) (by decide) (by decide)) (by decide) (by decide)) (by decide)
  · refine ⟨0, μ, zup μ 92 0 0, ?_, ?_, hR, zfr_92 (zfr_rf _ _ _) (by decide)⟩
    · rw [B_X11_found]
      by_cases c0 : 0 ≤ a ∧ a < μ 74 2 <;> by_cases c1 : μ 74 5 < 100 <;> by_cases c2 : 0 ≤ c ∧ c ≤ 9999 <;> by_cases c3 : 0 ≤ e ∧ e ≤ 9999 <;> by_cases c4 : 0 ≤ f ∧ f ≤ 9999 <;> by_cases c5 : μ 75 a.toNatClampNeg < b <;> by_cases c6 : b ≤ μ 1 11 <;> try simp only [B_X2_addFound, F_within, B_X2_addFound_11, F_canBeTold, B_X2_addFound_32, B_X2_addFound_112, B_X11_found_18, i32_mul3, q0, q2, q3, q4, q5, ba, b0, b1, b2, b3, c0, c1, c2, c3, c4, c5, c6, zbi_some, zbi_none, zbi_ite, zb_ite0, zb_or, b01_0, b01_1, b10, zrdS, zrdN, upd_eq, upd_ne, ne_eq, Nat.reduceEqDiff, or_true, true_or, if_true, if_false, and_self, and_true, true_and, not_true_eq_false, not_false_eq_true]
      exact absurd ⟨c0, c1, c2, c3, c4, c5, c6⟩ hall
    · rw [B_X12_found]
      have er92_1 : (zup μ 92 0 0) 92 1 = μ 92 1 := rfl
      have er92_85 : (zup μ 92 0 0) 92 85 = μ 92 85 := rfl
      have er92_88 : (zup μ 92 0 0) 92 88 = μ 92 88 := rfl
      have er149 : (zup μ 92 0 0) 149 = μ 149 := rfl
      by_cases c0 : 0 ≤ a ∧ a < μ 74 2 <;> by_cases c1 : μ 74 5 < 100 <;> by_cases c2 : 0 ≤ c ∧ c ≤ 9999 <;> by_cases c3 : 0 ≤ e ∧ e ≤ 9999 <;> by_cases c4 : 0 ≤ f ∧ f ≤ 9999 <;> by_cases c5 : μ 75 a.toNatClampNeg < b <;> by_cases c6 : b ≤ μ 1 11 <;> try simp only [F_X12_isFlock, B_X12_found_10, F_isIn, B_X12_found_30, F_X12_isHerd, B_X12_found_38, B_X12_found_47, B_X12_found_56, B_X12_found_145, ← n1, ← g3, ← g4, ← e1, q0, q2, q3, q4, q5, ba, b0, b1, b2, b3, er92_1, er92_85, er92_88, er149, c0, c1, c2, c3, c4, c5, c6, zbi_some, zbi_none, zbi_ite, zb_ite0, zb_or, b01_0, b01_1, b10, zrdS, zrdN, upd_eq, upd_ne, ne_eq, Nat.reduceEqDiff, or_true, true_or, if_true, if_false, and_self, and_true, true_and, not_true_eq_false, not_false_eq_true]
      exact absurd ⟨c0, c1, c2, c3, c4, c5, c6⟩ hall


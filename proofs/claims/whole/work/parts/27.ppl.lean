/-! PLAIN CALLS of the people; the loan -/
def Rppl (ca cm : Int32) (r68 r134 r69 r135 r70 r137 r72 r148 r71 r136 : Nat → Int32) : Prop :=
  ca = cm ∧ (0 ≤ ca.toInt ∧ ca.toInt ≤ 32) ∧ (r68 = r134 ∧ r69 = r135 ∧ r70 = r137 ∧ r72 = r148) ∧ zin2 r68 0 3 ∧ zin2 r69 0 99 ∧ zin2 r70 0 30 ∧ zin2 r72 0 9999999 ∧ ∀ i : Nat, i < 32 → (r71 i).toInt = zcnt r136 (Int32.ofNat i) ca.toInt.toNat
abbrev RpplM (μ : zMu) : Prop := Rppl (μ 67 1) (μ 92 62) (μ 68) (μ 134) (μ 69) (μ 135) (μ 70) (μ 137) (μ 72) (μ 148) (μ 71) (μ 136)
abbrev RnlpM (μ : zMu) : Prop := RpplM μ ∧ RnlM μ
theorem kids_step {r71 r136 : Nat → Int32} {n : Nat} (hn : n < 32) (h : ∀ i : Nat, i < 32 → (r71 i).toInt = zcnt r136 (Int32.ofNat i) n) {c : Int32} (h0 : 0 ≤ c.toInt) (h2 : c.toInt < 32) : ∀ i : Nat, i < 32 → (upd r71 c.toNatClampNeg (r71 c.toNatClampNeg + 1) i).toInt = zcnt (upd r136 n c) (Int32.ofNat i) (n + 1) := by
  intro i hi
  show _ = ((zcnt (upd r136 n c) (Int32.ofNat i) n + if upd r136 n c n = Int32.ofNat i then 1 else 0 : Nat) : Int)
  have t1 : (1 : Int32).toInt = 1 := rfl
  have ti : (Int32.ofNat i).toInt = i := Int32.toInt_ofNat_of_lt (by omega)
  rw [zcnt_upd _ _ _ _ _ (Nat.le_refl n), upd_eq]
  have hz := zcnt_le r136 (Int32.ofNat i) n
  have hh := h i hi
  by_cases hc : c = Int32.ofNat i
  · rw [if_pos hc]
    have e : c.toNatClampNeg = i := by rw [i32_nat, hc, ti]; rfl
    rw [e, upd_eq, i32_add] <;> omega
  · rw [if_neg hc]
    have e : i ≠ c.toNatClampNeg := by
      intro q
      apply hc
      rw [i32_eq, ti, q, i32_nat]
      omega
    rw [upd_ne _ _ e]
    omega
theorem kids_none {r71 r136 : Nat → Int32} {n : Nat} (hn : n < 32) (h : ∀ i : Nat, i < 32 → (r71 i).toInt = zcnt r136 (Int32.ofNat i) n) {c : Int32} (h0 : c.toInt < 0) : ∀ i : Nat, i < 32 → (r71 i).toInt = zcnt (upd r136 n c) (Int32.ofNat i) (n + 1) := by
  intro i hi
  show _ = ((zcnt (upd r136 n c) (Int32.ofNat i) n + if upd r136 n c n = Int32.ofNat i then 1 else 0 : Nat) : Int)
  have ti : (Int32.ofNat i).toInt = i := Int32.toInt_ofNat_of_lt (by omega)
  rw [zcnt_upd _ _ _ _ _ (Nat.le_refl n), upd_eq, if_neg (by intro q; rw [q, ti] at h0; omega)]
  have hh := h i hi
  omega
theorem ag_person0 (d len : Nat) (μ : zMu) (ν : zNu) (a : Int32) (b : Int32) (c : Int32) (hx : c = -1) (h : RpplM μ) : ∃ (v : Int32) (μ1 μ2 : zMu), zF zT0 (d + 8) 159 [.ref 1, .int a, .int b, .int c] (zm len μ ν) = some (.int v, zm len μ1 ν) ∧ zF zT0 (d + 8) 251 [.ref 92, .int a, .int b, .int c] (zm len μ1 ν) = some (.int v, zm len μ2 ν) ∧ RpplM μ2 ∧ zfr [67, 68, 69, 71, 134, 135, 136] [0, 62] μ μ2 := by
  have hR := h
  obtain ⟨g1, g2, ⟨e1, e2, e3, e4⟩, w1, w2, w3, w4, hk⟩ := h
  have q2 : ((32 : Int32) ≤ μ 67 1) = ¬ (μ 67 1 < 32) := propext ⟨fun q z => i32_nle.mpr z q, fun q => i32_nlt.mp q⟩
  have q3 : (μ 67 1 = 32) = ¬ (μ 67 1 < 32) := by have t8 : (32 : Int32).toInt = 32 := rfl; rw [i32_lt, i32_eq]; apply propext; omega
  have b0 : μ 67 1 < 32 → 0 ≤ (μ 67 1).toInt ∧ (μ 67 1).toInt < ((32 : Nat) : Int) := by intro z; rw [i32_lt] at z; have y : (32 : Int32).toInt = 32 := rfl; omega
  have s1 : (c = -1) = True := eq_true hx
  by_cases hall : (μ 67 1 < 32) ∧ (0 ≤ a ∧ a ≤ 3) ∧ (0 ≤ b ∧ b ≤ 99)
  · obtain ⟨c0, c1, c2⟩ := hall
    refine ⟨μ 67 1 + 1 - 1, (zup (zup (zup μ 68 (μ 67 1).toNatClampNeg a) 69 (μ 67 1).toNatClampNeg b) 67 1 (μ 67 1 + 1)), (zup (zup (zup (zup (zup (zup (zup (zup μ 68 (μ 67 1).toNatClampNeg a) 69 (μ 67 1).toNatClampNeg b) 67 1 (μ 67 1 + 1)) 92 0 0) 134 (μ 67 1).toNatClampNeg a) 135 (μ 67 1).toNatClampNeg b) 136 (μ 67 1).toNatClampNeg c) 92 62 (μ 67 1 + 1)), ?_, ?_, ?_, ?_⟩
    · rw [B_X11_person]
      simp only [B_X6_add, F_within, B_X6_add_15, B_X6_add_25, F_X6_has, B_X6_add_40, B_X6_add_45, B_X6_add_60, B_X11_person_10, q2, q3, b0, s1, c0, c1, c2, zbi_some, zbi_none, zbi_ite, zb_ite0, zb_or, b01_0, b01_1, b10, zrdS, zrdN, upd_eq, upd_ne, ne_eq, Nat.reduceEqDiff, or_true, true_or, if_true, if_false, and_self, and_true, true_and, not_true_eq_false, not_false_eq_true]
      all_goals rfl
    · rw [B_X12_person]
      have er92_62 : (zup (zup (zup (zup μ 68 (μ 67 1).toNatClampNeg a) 69 (μ 67 1).toNatClampNeg b) 67 1 (μ 67 1 + 1)) 92 0 0) 92 62 = μ 92 62 := rfl
      simp only [F_isIn, B_X12_person_12, B_X12_person_23, F_X12_isPerson, B_X12_person_36, B_X12_person_39, ← g1, q2, q3, b0, s1, er92_62, c0, c1, c2, zbi_some, zbi_none, zbi_ite, zb_ite0, zb_or, b01_0, b01_1, b10, zrdS, zrdN, upd_eq, upd_ne, ne_eq, Nat.reduceEqDiff, or_true, true_or, if_true, if_false, and_self, and_true, true_and, not_true_eq_false, not_false_eq_true]
      all_goals rfl
    · show Rppl (μ 67 1 + 1) (μ 67 1 + 1) (upd (μ 68) (μ 67 1).toNatClampNeg a) (upd (μ 134) (μ 67 1).toNatClampNeg a) (upd (μ 69) (μ 67 1).toNatClampNeg b) (upd (μ 135) (μ 67 1).toNatClampNeg b) (μ 70) (μ 137) (μ 72) (μ 148) (μ 71) (upd (μ 136) (μ 67 1).toNatClampNeg c)
      have k1 := c1.1
      have k2 := c1.2
      have k3 := c2.1
      have k4 := c2.2
      have t0 : (0 : Int32).toInt = 0 := rfl
      have t1 : (1 : Int32).toInt = 1 := rfl
      have t3 : (3 : Int32).toInt = 3 := rfl
      have t32 : (32 : Int32).toInt = 32 := rfl
      have t99 : (99 : Int32).toInt = 99 := rfl
      rw [i32_le] at k1 k2 k3 k4
      rw [i32_lt] at c0
      have ee : (μ 67 1 + 1).toInt = (μ 67 1).toInt + 1 := by rw [i32_add] <;> omega
      have en : (μ 67 1 + 1).toInt.toNat = (μ 67 1).toNatClampNeg + 1 := by rw [i32_nat]; omega
      exact ⟨rfl, (by omega), ⟨(by rw [e1]), (by rw [e2]), e3, e4⟩, zin2_upd w1 (by omega) (by omega), zin2_upd w2 (by omega) (by omega), w3, w4, (by rw [en]; exact kids_none (by omega) hk (by rw [hx]; decide))⟩
    · exact zfr_92 (zfr_up (zfr_up (zfr_up (zfr_92 (zfr_up (zfr_up (zfr_up (zfr_rf _ _ _) (by decide) (by decide)) (by decide) (by decide)) (by decide) (by decide)) (by decide)) (by decide) (by decide)) (by decide) (by decide)) (by decide) (by decide)) (by decide)
  · refine ⟨(-1), μ, zup μ 92 0 0, ?_, ?_, hR, zfr_92 (zfr_rf _ _ _) (by decide)⟩
    · rw [B_X11_person]
      by_cases c0 : μ 67 1 < 32 <;> by_cases c1 : 0 ≤ a ∧ a ≤ 3 <;> by_cases c2 : 0 ≤ b ∧ b ≤ 99 <;> try simp only [B_X6_add, F_within, B_X6_add_15, B_X6_add_25, F_X6_has, B_X6_add_40, B_X6_add_45, B_X6_add_60, B_X11_person_10, q2, q3, b0, s1, c0, c1, c2, zbi_some, zbi_none, zbi_ite, zb_ite0, zb_or, b01_0, b01_1, b10, zrdS, zrdN, upd_eq, upd_ne, ne_eq, Nat.reduceEqDiff, or_true, true_or, if_true, if_false, and_self, and_true, true_and, not_true_eq_false, not_false_eq_true]
      exact absurd ⟨c0, c1, c2⟩ hall
    · rw [B_X12_person]
      have er92_62 : (zup μ 92 0 0) 92 62 = μ 92 62 := rfl
      by_cases c0 : μ 67 1 < 32 <;> by_cases c1 : 0 ≤ a ∧ a ≤ 3 <;> by_cases c2 : 0 ≤ b ∧ b ≤ 99 <;> try simp only [F_isIn, B_X12_person_12, B_X12_person_23, F_X12_isPerson, B_X12_person_36, B_X12_person_39, ← g1, q2, q3, b0, s1, er92_62, c0, c1, c2, zbi_some, zbi_none, zbi_ite, zb_ite0, zb_or, b01_0, b01_1, b10, zrdS, zrdN, upd_eq, upd_ne, ne_eq, Nat.reduceEqDiff, or_true, true_or, if_true, if_false, and_self, and_true, true_and, not_true_eq_false, not_false_eq_true]
      exact absurd ⟨c0, c1, c2⟩ hall

theorem ag_person1 (d len : Nat) (μ : zMu) (ν : zNu) (a : Int32) (b : Int32) (c : Int32) (hx : ¬ c = -1) (h : RpplM μ) : ∃ (v : Int32) (μ1 μ2 : zMu), zF zT0 (d + 8) 159 [.ref 1, .int a, .int b, .int c] (zm len μ ν) = some (.int v, zm len μ1 ν) ∧ zF zT0 (d + 8) 251 [.ref 92, .int a, .int b, .int c] (zm len μ1 ν) = some (.int v, zm len μ2 ν) ∧ RpplM μ2 ∧ zfr [67, 68, 69, 71, 134, 135, 136] [0, 62] μ μ2 := by
  have hR := h
  obtain ⟨g1, g2, ⟨e1, e2, e3, e4⟩, w1, w2, w3, w4, hk⟩ := h
  have q2 : ((32 : Int32) ≤ μ 67 1) = ¬ (μ 67 1 < 32) := propext ⟨fun q z => i32_nle.mpr z q, fun q => i32_nlt.mp q⟩
  have q3 : (μ 67 1 = 32) = ¬ (μ 67 1 < 32) := by have t8 : (32 : Int32).toInt = 32 := rfl; rw [i32_lt, i32_eq]; apply propext; omega
  have q0 : (c ≤ μ 67 1 - 1) = (c < μ 67 1) := propext (i32_pred g2.1)
  have b0 : μ 67 1 < 32 → 0 ≤ (μ 67 1).toInt ∧ (μ 67 1).toInt < ((32 : Nat) : Int) := by intro z; rw [i32_lt] at z; have y : (32 : Int32).toInt = 32 := rfl; omega
  have ba : (0 ≤ c ∧ c < μ 67 1) → 0 ≤ c.toInt ∧ c.toInt < ((32 : Nat) : Int) := by intro z; have z1 := z.1; have z2 := z.2; rw [i32_le] at z1; rw [i32_lt] at z2; have y0 : (0 : Int32).toInt = 0 := rfl; omega
  have s1 : (c = -1) = False := eq_false hx
  have er67 : (zup μ 71 c.toNatClampNeg (μ 71 c.toNatClampNeg + 1)) 67 1 = μ 67 1 := rfl
  by_cases hall : (μ 67 1 < 32) ∧ (0 ≤ a ∧ a ≤ 3) ∧ (0 ≤ b ∧ b ≤ 99) ∧ (0 ≤ c ∧ c < μ 67 1)
  · obtain ⟨c0, c1, c2, c3⟩ := hall
    refine ⟨μ 67 1 + 1 - 1, (zup (zup (zup (zup μ 71 c.toNatClampNeg (μ 71 c.toNatClampNeg + 1)) 68 (μ 67 1).toNatClampNeg a) 69 (μ 67 1).toNatClampNeg b) 67 1 (μ 67 1 + 1)), (zup (zup (zup (zup (zup (zup (zup (zup (zup μ 71 c.toNatClampNeg (μ 71 c.toNatClampNeg + 1)) 68 (μ 67 1).toNatClampNeg a) 69 (μ 67 1).toNatClampNeg b) 67 1 (μ 67 1 + 1)) 92 0 0) 134 (μ 67 1).toNatClampNeg a) 135 (μ 67 1).toNatClampNeg b) 136 (μ 67 1).toNatClampNeg c) 92 62 (μ 67 1 + 1)), ?_, ?_, ?_, ?_⟩
    · rw [B_X11_person]
      simp only [B_X6_add, F_within, B_X6_add_15, B_X6_add_25, F_X6_has, B_X6_add_40, B_X6_add_45, B_X6_add_60, B_X11_person_10, q2, q3, q0, b0, ba, s1, er67, c0, c1, c2, c3, zbi_some, zbi_none, zbi_ite, zb_ite0, zb_or, b01_0, b01_1, b10, zrdS, zrdN, upd_eq, upd_ne, ne_eq, Nat.reduceEqDiff, or_true, true_or, if_true, if_false, and_self, and_true, true_and, not_true_eq_false, not_false_eq_true]
      all_goals rfl
    · rw [B_X12_person]
      have er92_62 : (zup (zup (zup (zup (zup μ 71 c.toNatClampNeg (μ 71 c.toNatClampNeg + 1)) 68 (μ 67 1).toNatClampNeg a) 69 (μ 67 1).toNatClampNeg b) 67 1 (μ 67 1 + 1)) 92 0 0) 92 62 = μ 92 62 := rfl
      simp only [F_isIn, B_X12_person_12, B_X12_person_23, F_X12_isPerson, B_X12_person_36, B_X12_person_39, ← g1, q2, q3, q0, b0, ba, s1, er67, er92_62, c0, c1, c2, c3, zbi_some, zbi_none, zbi_ite, zb_ite0, zb_or, b01_0, b01_1, b10, zrdS, zrdN, upd_eq, upd_ne, ne_eq, Nat.reduceEqDiff, or_true, true_or, if_true, if_false, and_self, and_true, true_and, not_true_eq_false, not_false_eq_true]
      all_goals rfl
    · show Rppl (μ 67 1 + 1) (μ 67 1 + 1) (upd (μ 68) (μ 67 1).toNatClampNeg a) (upd (μ 134) (μ 67 1).toNatClampNeg a) (upd (μ 69) (μ 67 1).toNatClampNeg b) (upd (μ 135) (μ 67 1).toNatClampNeg b) (μ 70) (μ 137) (μ 72) (μ 148) (upd (μ 71) c.toNatClampNeg (μ 71 c.toNatClampNeg + 1)) (upd (μ 136) (μ 67 1).toNatClampNeg c)
      have k1 := c1.1
      have k2 := c1.2
      have k3 := c2.1
      have k4 := c2.2
      have k5 := c3.1
      have k6 := c3.2
      have t0 : (0 : Int32).toInt = 0 := rfl
      have t1 : (1 : Int32).toInt = 1 := rfl
      have t3 : (3 : Int32).toInt = 3 := rfl
      have t32 : (32 : Int32).toInt = 32 := rfl
      have t99 : (99 : Int32).toInt = 99 := rfl
      rw [i32_le] at k1 k2 k3 k4 k5
      rw [i32_lt] at c0 k6
      have ee : (μ 67 1 + 1).toInt = (μ 67 1).toInt + 1 := by rw [i32_add] <;> omega
      have en : (μ 67 1 + 1).toInt.toNat = (μ 67 1).toNatClampNeg + 1 := by rw [i32_nat]; omega
      exact ⟨rfl, (by omega), ⟨(by rw [e1]), (by rw [e2]), e3, e4⟩, zin2_upd w1 (by omega) (by omega), zin2_upd w2 (by omega) (by omega), w3, w4, (by rw [en]; exact kids_step (by omega) hk (by omega) (by omega))⟩
    · exact zfr_92 (zfr_up (zfr_up (zfr_up (zfr_92 (zfr_up (zfr_up (zfr_up (zfr_up (zfr_rf _ _ _) (by decide) (by decide)) (by decide) (by decide)) (by decide) (by decide)) (by decide) (by decide)) (by decide)) (by decide) (by decide)) (by decide) (by decide)) (by decide) (by decide)) (by decide)
  · refine ⟨(-1), μ, zup μ 92 0 0, ?_, ?_, hR, zfr_92 (zfr_rf _ _ _) (by decide)⟩
    · rw [B_X11_person]
      by_cases c0 : μ 67 1 < 32 <;> by_cases c1 : 0 ≤ a ∧ a ≤ 3 <;> by_cases c2 : 0 ≤ b ∧ b ≤ 99 <;> by_cases c3 : 0 ≤ c ∧ c < μ 67 1 <;> try simp only [B_X6_add, F_within, B_X6_add_15, B_X6_add_25, F_X6_has, B_X6_add_40, B_X6_add_45, B_X6_add_60, B_X11_person_10, q2, q3, q0, b0, ba, s1, er67, c0, c1, c2, c3, zbi_some, zbi_none, zbi_ite, zb_ite0, zb_or, b01_0, b01_1, b10, zrdS, zrdN, upd_eq, upd_ne, ne_eq, Nat.reduceEqDiff, or_true, true_or, if_true, if_false, and_self, and_true, true_and, not_true_eq_false, not_false_eq_true]
      exact absurd ⟨c0, c1, c2, c3⟩ hall
    · rw [B_X12_person]
      have er92_62 : (zup μ 92 0 0) 92 62 = μ 92 62 := rfl
      by_cases c0 : μ 67 1 < 32 <;> by_cases c1 : 0 ≤ a ∧ a ≤ 3 <;> by_cases c2 : 0 ≤ b ∧ b ≤ 99 <;> by_cases c3 : 0 ≤ c ∧ c < μ 67 1 <;> try simp only [F_isIn, B_X12_person_12, B_X12_person_23, F_X12_isPerson, B_X12_person_36, B_X12_person_39, ← g1, q2, q3, q0, b0, ba, s1, er67, er92_62, c0, c1, c2, c3, zbi_some, zbi_none, zbi_ite, zb_ite0, zb_or, b01_0, b01_1, b10, zrdS, zrdN, upd_eq, upd_ne, ne_eq, Nat.reduceEqDiff, or_true, true_or, if_true, if_false, and_self, and_true, true_and, not_true_eq_false, not_false_eq_true]
      exact absurd ⟨c0, c1, c2, c3⟩ hall

theorem ag_person (d len : Nat) (μ : zMu) (ν : zNu) (a b c : Int32) (h : RpplM μ) : ∃ (v : Int32) (μ1 μ2 : zMu), zF zT0 (d + 8) 159 [.ref 1, .int a, .int b, .int c] (zm len μ ν) = some (.int v, zm len μ1 ν) ∧ zF zT0 (d + 8) 251 [.ref 92, .int a, .int b, .int c] (zm len μ1 ν) = some (.int v, zm len μ2 ν) ∧ RpplM μ2 ∧ zfr [67, 68, 69, 71, 134, 135, 136] [0, 62] μ μ2 := by
  by_cases hx : c = -1
  · exact ag_person0 d len μ ν a b c hx h
  · exact ag_person1 d len μ ν a b c hx h
theorem ag_works (d len : Nat) (μ : zMu) (ν : zNu) (a : Int32) (b : Int32) (h : RpplM μ) : ∃ (v : Int32) (μ1 μ2 : zMu), zF zT0 (d + 8) 160 [.ref 1, .int a, .int b] (zm len μ ν) = some (.int v, zm len μ1 ν) ∧ zF zT0 (d + 8) 252 [.ref 92, .int a, .int b] (zm len μ1 ν) = some (.int v, zm len μ2 ν) ∧ RpplM μ2 ∧ zfr [70, 137] [0] μ μ2 := by
  have hR := h
  obtain ⟨g1, g2, ⟨e1, e2, e3, e4⟩, w1, w2, w3, w4, hk⟩ := h
  have q0 : (a ≤ μ 67 1 - 1) = (a < μ 67 1) := propext (i32_pred g2.1)
  have ba : (0 ≤ a ∧ a < μ 67 1) → 0 ≤ a.toInt ∧ a.toInt < ((32 : Nat) : Int) := by intro z; have z1 := z.1; have z2 := z.2; rw [i32_le] at z1; rw [i32_lt] at z2; have y0 : (0 : Int32).toInt = 0 := rfl; omega
  by_cases hall : (0 ≤ a ∧ a < μ 67 1) ∧ (0 ≤ b ∧ b ≤ 30)
  · obtain ⟨c1, c2⟩ := hall
    refine ⟨1, (zup μ 70 a.toNatClampNeg b), (zup (zup (zup μ 70 a.toNatClampNeg b) 92 0 0) 137 a.toNatClampNeg b), ?_, ?_, ?_, ?_⟩
    · rw [B_X11_works]
      simp only [B_X6_setDays, F_X6_has, B_X6_setDays_5, F_within, B_X6_setDays_15, B_X11_works_9, q0, ba, c1, c2, zbi_some, zbi_none, zbi_ite, zb_ite0, zb_or, b01_0, b01_1, b10, zrdS, zrdN, upd_eq, upd_ne, ne_eq, Nat.reduceEqDiff, or_true, true_or, if_true, if_false, and_self, and_true, true_and, not_true_eq_false, not_false_eq_true]
      all_goals rfl
    · rw [B_X12_works]
      have er92_62 : (zup (zup μ 70 a.toNatClampNeg b) 92 0 0) 92 62 = μ 92 62 := rfl
      simp only [F_X12_isPerson, B_X12_works_10, F_isIn, B_X12_works_21, ← g1, q0, ba, er92_62, c1, c2, zbi_some, zbi_none, zbi_ite, zb_ite0, zb_or, b01_0, b01_1, b10, zrdS, zrdN, upd_eq, upd_ne, ne_eq, Nat.reduceEqDiff, or_true, true_or, if_true, if_false, and_self, and_true, true_and, not_true_eq_false, not_false_eq_true]
      all_goals rfl
    · show Rppl (μ 67 1) (μ 92 62) (μ 68) (μ 134) (μ 69) (μ 135) (upd (μ 70) a.toNatClampNeg b) (upd (μ 137) a.toNatClampNeg b) (μ 72) (μ 148) (μ 71) (μ 136)
      have k1 := c1.1
      have k2 := c1.2
      have k3 := c2.1
      have k4 := c2.2
      have t0 : (0 : Int32).toInt = 0 := rfl
      have t30 : (30 : Int32).toInt = 30 := rfl
      rw [i32_le] at k3 k4
      exact ⟨g1, g2, ⟨e1, e2, (by rw [e3]), e4⟩, w1, w2, zin2_upd w3 (by omega) (by omega), w4, hk⟩
    · exact zfr_up (zfr_92 (zfr_up (zfr_rf _ _ _) (by decide) (by decide)) (by decide)) (by decide) (by decide)
  · refine ⟨0, μ, zup μ 92 0 0, ?_, ?_, hR, zfr_92 (zfr_rf _ _ _) (by decide)⟩
    · rw [B_X11_works]
      by_cases c1 : 0 ≤ a ∧ a < μ 67 1 <;> by_cases c2 : 0 ≤ b ∧ b ≤ 30 <;> try simp only [B_X6_setDays, F_X6_has, B_X6_setDays_5, F_within, B_X6_setDays_15, B_X11_works_9, q0, ba, c1, c2, zbi_some, zbi_none, zbi_ite, zb_ite0, zb_or, b01_0, b01_1, b10, zrdS, zrdN, upd_eq, upd_ne, ne_eq, Nat.reduceEqDiff, or_true, true_or, if_true, if_false, and_self, and_true, true_and, not_true_eq_false, not_false_eq_true]
      exact absurd ⟨c1, c2⟩ hall
    · rw [B_X12_works]
      have er92_62 : (zup μ 92 0 0) 92 62 = μ 92 62 := rfl
      by_cases c1 : 0 ≤ a ∧ a < μ 67 1 <;> by_cases c2 : 0 ≤ b ∧ b ≤ 30 <;> try simp only [F_X12_isPerson, B_X12_works_10, F_isIn, B_X12_works_21, ← g1, q0, ba, er92_62, c1, c2, zbi_some, zbi_none, zbi_ite, zb_ite0, zb_or, b01_0, b01_1, b10, zrdS, zrdN, upd_eq, upd_ne, ne_eq, Nat.reduceEqDiff, or_true, true_or, if_true, if_false, and_self, and_true, true_and, not_true_eq_false, not_false_eq_true]
      exact absurd ⟨c1, c2⟩ hall

theorem ag_store (d len : Nat) (μ : zMu) (ν : zNu) (a : Int32) (b : Int32) (h : RpplM μ) : ∃ (v : Int32) (μ1 μ2 : zMu), zF zT0 (d + 8) 161 [.ref 1, .int a, .int b] (zm len μ ν) = some (.int v, zm len μ1 ν) ∧ zF zT0 (d + 8) 268 [.ref 92, .int a, .int b] (zm len μ1 ν) = some (.int v, zm len μ2 ν) ∧ RpplM μ2 ∧ zfr [72, 148] [0] μ μ2 := by
  have hR := h
  obtain ⟨g1, g2, ⟨e1, e2, e3, e4⟩, w1, w2, w3, w4, hk⟩ := h
  have ba : (0 ≤ a ∧ a ≤ 7) → 0 ≤ a.toInt ∧ a.toInt < ((8 : Nat) : Int) := by intro z; have z1 := z.1; have z2 := z.2; rw [i32_le] at z1 z2; have y0 : (0 : Int32).toInt = 0 := rfl; have y7 : (7 : Int32).toInt = 7 := rfl; omega
  by_cases hall : (0 ≤ a ∧ a ≤ 7) ∧ (0 ≤ b ∧ b ≤ 9999999 - μ 72 a.toNatClampNeg)
  · obtain ⟨c1, c2⟩ := hall
    refine ⟨μ 72 a.toNatClampNeg + b, (zup μ 72 a.toNatClampNeg (μ 72 a.toNatClampNeg + b)), (zup (zup (zup μ 72 a.toNatClampNeg (μ 72 a.toNatClampNeg + b)) 92 0 0) 148 a.toNatClampNeg (μ 72 a.toNatClampNeg + b)), ?_, ?_, ?_, ?_⟩
    · rw [B_X11_store]
      simp only [B_X6_putInStore, F_X11_isGood, B_X6_putInStore_4, F_within, B_X6_putInStore_21, B_X11_store_9, upd_eq, ba, c1, c2, zbi_some, zbi_none, zbi_ite, zb_ite0, zb_or, b01_0, b01_1, b10, zrdS, zrdN, upd_eq, upd_ne, ne_eq, Nat.reduceEqDiff, or_true, true_or, if_true, if_false, and_self, and_true, true_and, not_true_eq_false, not_false_eq_true]
      all_goals rfl
    · rw [B_X12_store]
      have er148 : (zup (zup μ 72 a.toNatClampNeg (μ 72 a.toNatClampNeg + b)) 92 0 0) 148 = μ 148 := rfl
      simp only [F_X12_isGood, B_X12_store_10, F_isIn, B_X12_store_29, ← e4, upd_eq, ba, er148, c1, c2, zbi_some, zbi_none, zbi_ite, zb_ite0, zb_or, b01_0, b01_1, b10, zrdS, zrdN, upd_eq, upd_ne, ne_eq, Nat.reduceEqDiff, or_true, true_or, if_true, if_false, and_self, and_true, true_and, not_true_eq_false, not_false_eq_true]
      all_goals rfl
    · show Rppl (μ 67 1) (μ 92 62) (μ 68) (μ 134) (μ 69) (μ 135) (μ 70) (μ 137) (upd (μ 72) a.toNatClampNeg (μ 72 a.toNatClampNeg + b)) (upd (μ 148) a.toNatClampNeg (μ 72 a.toNatClampNeg + b)) (μ 71) (μ 136)
      have k1 := c1.1
      have k2 := c1.2
      have k3 := c2.1
      have k4 := c2.2
      have t0 : (0 : Int32).toInt = 0 := rfl
      have t9999999 : (9999999 : Int32).toInt = 9999999 := rfl
      have w4a := w4 a.toNatClampNeg
      have e9 : (9999999 - μ 72 a.toNatClampNeg).toInt = 9999999 - (μ 72 a.toNatClampNeg).toInt := by rw [i32_sub] <;> omega
      rw [i32_le] at k3 k4
      have ee : (μ 72 a.toNatClampNeg + b).toInt = (μ 72 a.toNatClampNeg).toInt + b.toInt := by rw [i32_add] <;> omega
      exact ⟨g1, g2, ⟨e1, e2, e3, (by rw [e4])⟩, w1, w2, w3, zin2_upd w4 (by omega) (by omega), hk⟩
    · exact zfr_up (zfr_92 (zfr_up (zfr_rf _ _ _) (by decide) (by decide)) (by decide)) (by decide) (by decide)
  · refine ⟨(-1), μ, zup μ 92 0 0, ?_, ?_, hR, zfr_92 (zfr_rf _ _ _) (by decide)⟩
    · rw [B_X11_store]
      by_cases c1 : 0 ≤ a ∧ a ≤ 7 <;> by_cases c2 : 0 ≤ b ∧ b ≤ 9999999 - μ 72 a.toNatClampNeg <;> try simp only [B_X6_putInStore, F_X11_isGood, B_X6_putInStore_4, F_within, B_X6_putInStore_21, B_X11_store_9, upd_eq, ba, c1, c2, zbi_some, zbi_none, zbi_ite, zb_ite0, zb_or, b01_0, b01_1, b10, zrdS, zrdN, upd_eq, upd_ne, ne_eq, Nat.reduceEqDiff, or_true, true_or, if_true, if_false, and_self, and_true, true_and, not_true_eq_false, not_false_eq_true]
      exact absurd ⟨c1, c2⟩ hall
    · rw [B_X12_store]
      have er148 : (zup μ 92 0 0) 148 = μ 148 := rfl
      by_cases c1 : 0 ≤ a ∧ a ≤ 7 <;> by_cases c2 : 0 ≤ b ∧ b ≤ 9999999 - μ 72 a.toNatClampNeg <;> try simp only [F_X12_isGood, B_X12_store_10, F_isIn, B_X12_store_29, ← e4, upd_eq, ba, er148, c1, c2, zbi_some, zbi_none, zbi_ite, zb_ite0, zb_or, b01_0, b01_1, b10, zrdS, zrdN, upd_eq, upd_ne, ne_eq, Nat.reduceEqDiff, or_true, true_or, if_true, if_false, and_self, and_true, true_and, not_true_eq_false, not_false_eq_true]
      exact absurd ⟨c1, c2⟩ hall

theorem ag_loan (d len : Nat) (μ : zMu) (ν : zNu) (a : Int32) (b : Int32) (c : Int32) (h : RnlpM μ) : ∃ (v : Int32) (μ1 μ2 : zMu), zF zT0 (d + 8) 169 [.ref 1, .int a, .int b, .int c] (zm len μ ν) = some (.int v, zm len μ1 ν) ∧ zF zT0 (d + 8) 282 [.ref 92, .int a, .int b, .int c] (zm len μ1 ν) = some (.int v, zm len μ2 ν) ∧ RnlpM μ2 ∧ zfr [82, 85, 86, 87, 158, 159, 160] [0, 96] μ μ2 := by
  have hR := h
  obtain ⟨⟨p1, p2, _⟩, ⟨n1, n2, n3⟩, g1, g2, g3, g4, ⟨e1, e2, e3, e4, e5, e6, e7, e8, e9⟩, w1, w2, w3, w4, w5, w6, w7, w8, w9⟩ := h
  have q0 : (a ≤ μ 67 1 - 1) = (a < μ 67 1) := propext (i32_pred p2.1)
  have q2 : ((40 : Int32) ≤ μ 82 2) = ¬ (μ 82 2 < 40) := propext ⟨fun q z => i32_nle.mpr z q, fun q => i32_nlt.mp q⟩
  have q3 : (μ 82 2 = 40) = ¬ (μ 82 2 < 40) := by have t8 : (40 : Int32).toInt = 40 := rfl; rw [i32_lt, i32_eq]; apply propext; omega
  have b0 : μ 82 2 < 40 → 0 ≤ (μ 82 2).toInt ∧ (μ 82 2).toInt < ((40 : Nat) : Int) := by intro z; rw [i32_lt] at z; have y : (40 : Int32).toInt = 40 := rfl; omega
  by_cases hall : (0 ≤ a ∧ a < μ 67 1) ∧ (0 ≤ b ∧ b ≤ 7) ∧ (1 ≤ c ∧ c ≤ 99999) ∧ (μ 82 2 < 40)
  · obtain ⟨c0, c1, c2, c3⟩ := hall
    refine ⟨μ 82 2 + 1 - 1, (zup (zup (zup (zup μ 85 (μ 82 2).toNatClampNeg b) 86 (μ 82 2).toNatClampNeg c) 87 (μ 82 2).toNatClampNeg (μ 1 11)) 82 2 (μ 82 2 + 1)), (zup (zup (zup (zup (zup (zup (zup (zup (zup μ 85 (μ 82 2).toNatClampNeg b) 86 (μ 82 2).toNatClampNeg c) 87 (μ 82 2).toNatClampNeg (μ 1 11)) 82 2 (μ 82 2 + 1)) 92 0 0) 158 (μ 82 2).toNatClampNeg (μ 1 11)) 159 (μ 82 2).toNatClampNeg b) 160 (μ 82 2).toNatClampNeg c) 92 96 (μ 82 2 + 1)), ?_, ?_, ?_, ?_⟩
    · rw [B_X11_loan]
      simp only [F_X6_has, B_X11_loan_8, B_X4_add, F_X11_isGood, B_X4_add_13, F_within, B_X4_add_23, B_X11_loan_24, q0, q2, q3, b0, c0, c1, c2, c3, zbi_some, zbi_none, zbi_ite, zb_ite0, zb_or, b01_0, b01_1, b10, zrdS, zrdN, upd_eq, upd_ne, ne_eq, Nat.reduceEqDiff, or_true, true_or, if_true, if_false, and_self, and_true, true_and, not_true_eq_false, not_false_eq_true]
      all_goals rfl
    · rw [B_X12_loan]
      have er92_1 : (zup (zup (zup (zup (zup μ 85 (μ 82 2).toNatClampNeg b) 86 (μ 82 2).toNatClampNeg c) 87 (μ 82 2).toNatClampNeg (μ 1 11)) 82 2 (μ 82 2 + 1)) 92 0 0) 92 1 = μ 92 1 := rfl
      have er92_62 : (zup (zup (zup (zup (zup μ 85 (μ 82 2).toNatClampNeg b) 86 (μ 82 2).toNatClampNeg c) 87 (μ 82 2).toNatClampNeg (μ 1 11)) 82 2 (μ 82 2 + 1)) 92 0 0) 92 62 = μ 92 62 := rfl
      have er92_96 : (zup (zup (zup (zup (zup μ 85 (μ 82 2).toNatClampNeg b) 86 (μ 82 2).toNatClampNeg c) 87 (μ 82 2).toNatClampNeg (μ 1 11)) 82 2 (μ 82 2 + 1)) 92 0 0) 92 96 = μ 92 96 := rfl
      simp only [F_X12_isPerson, B_X12_loan_10, F_X12_isGood, B_X12_loan_18, F_isIn, B_X12_loan_30, ← p1, ← n1, ← g1, q0, q2, q3, b0, er92_1, er92_62, er92_96, c0, c1, c2, c3, zbi_some, zbi_none, zbi_ite, zb_ite0, zb_or, b01_0, b01_1, b10, zrdS, zrdN, upd_eq, upd_ne, ne_eq, Nat.reduceEqDiff, or_true, true_or, if_true, if_false, and_self, and_true, true_and, not_true_eq_false, not_false_eq_true]
      all_goals rfl
    · refine ⟨hR.1, ?_⟩
      show Rnow (μ 1 11) (μ 92 1) ∧ Rloan (μ 82 2 + 1) (μ 82 6) (μ 82 2 + 1) (μ 92 100) (μ 83) (μ 157) (μ 84) (μ 165) (upd (μ 85) (μ 82 2).toNatClampNeg b) (upd (μ 159) (μ 82 2).toNatClampNeg b) (upd (μ 86) (μ 82 2).toNatClampNeg c) (upd (μ 160) (μ 82 2).toNatClampNeg c) (upd (μ 87) (μ 82 2).toNatClampNeg (μ 1 11)) (upd (μ 158) (μ 82 2).toNatClampNeg (μ 1 11)) (μ 88) (μ 161) (μ 89) (μ 162) (μ 90) (μ 163) (μ 91) (μ 164)
      have k1 := c1.1
      have k2 := c1.2
      have k3 := c2.1
      have k4 := c2.2
      have t0 : (0 : Int32).toInt = 0 := rfl
      have t1 : (1 : Int32).toInt = 1 := rfl
      have t7 : (7 : Int32).toInt = 7 := rfl
      have t40 : (40 : Int32).toInt = 40 := rfl
      have t99999 : (99999 : Int32).toInt = 99999 := rfl
      rw [i32_le] at k1 k2 k3 k4
      rw [i32_lt] at c3
      have ee : (μ 82 2 + 1).toInt = (μ 82 2).toInt + 1 := by rw [i32_add] <;> omega
      exact ⟨⟨n1, n2, n3⟩, rfl, g2, (by omega), g4, ⟨e1, e2, (by rw [e3]), (by rw [e4]), (by rw [e5]), e6, e7, e8, e9⟩, w1, w2, zin2_upd w3 (by omega) (by omega), zin2_upd w4 (by omega) (by omega), zin2_upd w5 (by omega) (by omega), w6, w7, w8, w9⟩
    · exact zfr_92 (zfr_up (zfr_up (zfr_up (zfr_92 (zfr_up (zfr_up (zfr_up (zfr_up (zfr_rf _ _ _) (by decide) (by decide)) (by decide) (by decide)) (by decide) (by decide)) (by decide) (by decide)) (by decide)) (by decide) (by decide)) (by decide) (by decide)) (by decide) (by decide)) (by decide)
  · refine ⟨(-1), μ, zup μ 92 0 0, ?_, ?_, hR, zfr_92 (zfr_rf _ _ _) (by decide)⟩
    · rw [B_X11_loan]
      by_cases c0 : 0 ≤ a ∧ a < μ 67 1 <;> by_cases c1 : 0 ≤ b ∧ b ≤ 7 <;> by_cases c2 : 1 ≤ c ∧ c ≤ 99999 <;> by_cases c3 : μ 82 2 < 40 <;> try simp only [F_X6_has, B_X11_loan_8, B_X4_add, F_X11_isGood, B_X4_add_13, F_within, B_X4_add_23, B_X11_loan_24, q0, q2, q3, b0, c0, c1, c2, c3, zbi_some, zbi_none, zbi_ite, zb_ite0, zb_or, b01_0, b01_1, b10, zrdS, zrdN, upd_eq, upd_ne, ne_eq, Nat.reduceEqDiff, or_true, true_or, if_true, if_false, and_self, and_true, true_and, not_true_eq_false, not_false_eq_true]
      exact absurd ⟨c0, c1, c2, c3⟩ hall
    · rw [B_X12_loan]
      have er92_1 : (zup μ 92 0 0) 92 1 = μ 92 1 := rfl
      have er92_62 : (zup μ 92 0 0) 92 62 = μ 92 62 := rfl
      have er92_96 : (zup μ 92 0 0) 92 96 = μ 92 96 := rfl
      by_cases c0 : 0 ≤ a ∧ a < μ 67 1 <;> by_cases c1 : 0 ≤ b ∧ b ≤ 7 <;> by_cases c2 : 1 ≤ c ∧ c ≤ 99999 <;> by_cases c3 : μ 82 2 < 40 <;> try simp only [F_X12_isPerson, B_X12_loan_10, F_X12_isGood, B_X12_loan_18, F_isIn, B_X12_loan_30, ← p1, ← n1, ← g1, q0, q2, q3, b0, er92_1, er92_62, er92_96, c0, c1, c2, c3, zbi_some, zbi_none, zbi_ite, zb_ite0, zb_or, b01_0, b01_1, b10, zrdS, zrdN, upd_eq, upd_ne, ne_eq, Nat.reduceEqDiff, or_true, true_or, if_true, if_false, and_self, and_true, true_and, not_true_eq_false, not_false_eq_true]
      exact absurd ⟨c0, c1, c2, c3⟩ hall

theorem ag_edict (d len : Nat) (μ : zMu) (ν : zNu) (a : Int32) (h : RnlM μ) : ∃ (v : Int32) (μ1 μ2 : zMu), zF zT0 (d + 8) 171 [.ref 1, .int a] (zm len μ ν) = some (.int v, zm len μ1 ν) ∧ zF zT0 (d + 8) 285 [.ref 92, .int a] (zm len μ1 ν) = some (.int v, zm len μ2 ν) ∧ RnlM μ2 ∧ zfr [84, 165] [0] μ μ2 := by
  have hR := h
  obtain ⟨⟨n1, n2, n3⟩, g1, g2, g3, g4, ⟨e1, e2, e3, e4, e5, e6, e7, e8, e9⟩, w1, w2, w3, w4, w5, w6, w7, w8, w9⟩ := h
  have qy : (0 ≤ μ 1 11 ∧ μ 1 11 ≤ 99) = True := by have y0 : (0 : Int32).toInt = 0 := rfl; have y9 : (99 : Int32).toInt = 99 := rfl; apply eq_true; constructor <;> (rw [i32_le]; omega)
  have ba : (0 ≤ a ∧ a ≤ 7) → 0 ≤ (100 * a + μ 1 11).toInt ∧ (100 * a + μ 1 11).toInt < ((800 : Nat) : Int) := by intro z; have z1 := z.1; have z2 := z.2; rw [i32_le] at z1 z2; have y0 : (0 : Int32).toInt = 0 := rfl; have y7 : (7 : Int32).toInt = 7 := rfl; rw [idx100 (by omega) (by omega) (by omega) (by omega)]; omega
  by_cases hall : (0 ≤ a ∧ a ≤ 7) ∧ (μ 84 (100 * a + μ 1 11).toNatClampNeg = 0)
  · obtain ⟨c0, c1⟩ := hall
    refine ⟨1, (zup μ 84 (100 * a + μ 1 11).toNatClampNeg 1), (zup (zup (zup μ 84 (100 * a + μ 1 11).toNatClampNeg 1) 92 0 0) 165 (100 * a + μ 1 11).toNatClampNeg 1), ?_, ?_, ?_, ?_⟩
    · rw [B_X11_edict]
      simp only [B_X4_addEdict, F_X11_isGood, B_X4_addEdict_4, F_X11_isYear, B_X4_addEdict_11, B_X11_edict_12, i32_mul100, znar31, qy, ba, c0, c1, zbi_some, zbi_none, zbi_ite, zb_ite0, zb_or, b01_0, b01_1, b10, zrdS, zrdN, upd_eq, upd_ne, ne_eq, Nat.reduceEqDiff, or_true, true_or, if_true, if_false, and_self, and_true, true_and, not_true_eq_false, not_false_eq_true]
      all_goals rfl
    · rw [B_X12_edict]
      have er92_1 : (zup (zup μ 84 (100 * a + μ 1 11).toNatClampNeg 1) 92 0 0) 92 1 = μ 92 1 := rfl
      have er165 : (zup (zup μ 84 (100 * a + μ 1 11).toNatClampNeg 1) 92 0 0) 165 = μ 165 := rfl
      simp only [F_X12_isGood, B_X12_edict_10, znar31, ← n1, ← e2, qy, ba, er92_1, er165, c0, c1, zbi_some, zbi_none, zbi_ite, zb_ite0, zb_or, b01_0, b01_1, b10, zrdS, zrdN, upd_eq, upd_ne, ne_eq, Nat.reduceEqDiff, or_true, true_or, if_true, if_false, and_self, and_true, true_and, not_true_eq_false, not_false_eq_true]
      all_goals rfl
    · show Rnow (μ 1 11) (μ 92 1) ∧ Rloan (μ 82 2) (μ 82 6) (μ 92 96) (μ 92 100) (μ 83) (μ 157) (upd (μ 84) (100 * a + μ 1 11).toNatClampNeg 1) (upd (μ 165) (100 * a + μ 1 11).toNatClampNeg 1) (μ 85) (μ 159) (μ 86) (μ 160) (μ 87) (μ 158) (μ 88) (μ 161) (μ 89) (μ 162) (μ 90) (μ 163) (μ 91) (μ 164)
      exact ⟨⟨n1, n2, n3⟩, g1, g2, g3, g4, ⟨e1, (by rw [e2]), e3, e4, e5, e6, e7, e8, e9⟩, w1, zin2_upd w2 (by decide) (by decide), w3, w4, w5, w6, w7, w8, w9⟩
    · exact zfr_up (zfr_92 (zfr_up (zfr_rf _ _ _) (by decide) (by decide)) (by decide)) (by decide) (by decide)
  · refine ⟨0, μ, zup μ 92 0 0, ?_, ?_, hR, zfr_92 (zfr_rf _ _ _) (by decide)⟩
    · rw [B_X11_edict]
      by_cases c0 : 0 ≤ a ∧ a ≤ 7 <;> by_cases c1 : μ 84 (100 * a + μ 1 11).toNatClampNeg = 0 <;> try simp only [B_X4_addEdict, F_X11_isGood, B_X4_addEdict_4, F_X11_isYear, B_X4_addEdict_11, B_X11_edict_12, i32_mul100, znar31, qy, ba, c0, c1, zbi_some, zbi_none, zbi_ite, zb_ite0, zb_or, b01_0, b01_1, b10, zrdS, zrdN, upd_eq, upd_ne, ne_eq, Nat.reduceEqDiff, or_true, true_or, if_true, if_false, and_self, and_true, true_and, not_true_eq_false, not_false_eq_true]
      exact absurd ⟨c0, c1⟩ hall
    · rw [B_X12_edict]
      have er92_1 : (zup μ 92 0 0) 92 1 = μ 92 1 := rfl
      have er165 : (zup μ 92 0 0) 165 = μ 165 := rfl
      by_cases c0 : 0 ≤ a ∧ a ≤ 7 <;> by_cases c1 : μ 84 (100 * a + μ 1 11).toNatClampNeg = 0 <;> try simp only [F_X12_isGood, B_X12_edict_10, znar31, ← n1, ← e2, qy, ba, er92_1, er165, c0, c1, zbi_some, zbi_none, zbi_ite, zb_ite0, zb_or, b01_0, b01_1, b10, zrdS, zrdN, upd_eq, upd_ne, ne_eq, Nat.reduceEqDiff, or_true, true_or, if_true, if_false, and_self, and_true, true_and, not_true_eq_false, not_false_eq_true]
      exact absurd ⟨c0, c1⟩ hall


/-! PLAIN CALLS of the fragments -/
def Rfrag (cx cm : Int32) (hx hm lx lm rx rm : Nat → Int32) : Prop := cx = cm ∧ 0 ≤ cx.toInt ∧ cx.toInt ≤ 8 ∧ hx = hm ∧ lx = lm ∧ rx = rm ∧ (∀ i, 0 ≤ (hx i).toInt ∧ (hx i).toInt ≤ 3) ∧ (∀ i, -9 ≤ (lx i).toInt ∧ (lx i).toInt ≤ 9) ∧ ∀ i, -9 ≤ (rx i).toInt ∧ (rx i).toInt ≤ 9
abbrev RfragM (μ : zMu) : Prop := Rfrag (μ 51 0) (μ 92 56) (μ 52) (μ 129) (μ 53) (μ 130) (μ 54) (μ 131)
theorem upd_all {P : Int32 → Prop} {f : Nat → Int32} {k : Nat} {x : Int32} (hf : ∀ i, P (f i)) (hx : P x) : ∀ i, P (upd f k x i) := by
  intro i
  by_cases hi : i = k
  · subst hi
    rw [upd_eq]
    exact hx
  · rw [upd_ne _ _ hi]
    exact hf i
theorem b10 : ((1 : Int32) = 0) = False := eq_false (by decide)
theorem i32_mul5 (x : Int32) : x * 5 = 5 * x := by rw [Int32.mul_comm]
theorem i32_le8 (c : Int32) : ¬ 8 ≤ c ↔ c < 8 := i32_nle
theorem ag_fragment (d len : Nat) (μ : zMu) (ν : zNu) (a : Int32) (h : RfragM μ) : ∃ (v : Int32) (μ1 μ2 : zMu), zF zT0 (d + 8) 156 [.ref 1, .int a] (zm len μ ν) = some (.int v, zm len μ1 ν) ∧ zF zT0 (d + 8) 243 [.ref 92, .int a] (zm len μ1 ν) = some (.int v, zm len μ2 ν) ∧ RfragM μ2 ∧ zfr [51, 52, 129] [0, 56] μ μ2 := by
  have hR := h
  obtain ⟨g1, g2, g3, g4, g5, g6, g7, g8, g9⟩ := h
  have q1 : ((8 : Int32) ≤ μ 51 0) = ¬ (μ 51 0 < 8) := propext ⟨fun q z => i32_nle.mpr z q, fun q => i32_nlt.mp q⟩
  have q2 : (μ 51 0 = 8) = ¬ (μ 51 0 < 8) := by have t8 : (8 : Int32).toInt = 8 := rfl; rw [i32_lt, i32_eq]; apply propext; omega
  by_cases hall : (μ 51 0 < 8) ∧ (0 ≤ a ∧ a ≤ 3)
  · obtain ⟨c1, c2⟩ := hall
    have hb : 0 ≤ (μ 51 0).toInt ∧ (μ 51 0).toInt < ((8 : Nat) : Int) := by rw [i32_lt] at c1; have : (8 : Int32).toInt = 8 := rfl; omega
    refine ⟨μ 51 0 + 1 - 1, (zup (zup μ 52 (μ 51 0).toNatClampNeg a) 51 0 (μ 51 0 + 1)), (zup (zup (zup (zup (zup μ 52 (μ 51 0).toNatClampNeg a) 51 0 (μ 51 0 + 1)) 92 0 0) 129 (μ 51 0).toNatClampNeg a) 92 56 (μ 51 0 + 1)), ?_, ?_, ?_, ?_⟩
    · rw [B_X11_fragment]
      simp only [B_X3_add, B_X3_add_15, F_within, B_X11_fragment_8, q1, q2, c1, c2, hb, zbi_some, zbi_none, zbi_ite, zb_ite0, zb_or, b01_0, b01_1, b10, or_true, true_or, if_true, if_false, and_self, and_true, true_and, not_true_eq_false, not_false_eq_true]
    · rw [B_X12_fragment]
      have er92_56 : (zup (zup (zup μ 52 (μ 51 0).toNatClampNeg a) 51 0 (μ 51 0 + 1)) 92 0 0) 92 56 = μ 92 56 := rfl
      simp only [B_X12_fragment_12, F_isIn, ← g1, q1, q2, er92_56, c1, c2, hb, zbi_some, zbi_none, zbi_ite, zb_ite0, zb_or, b01_0, b01_1, b10, or_true, true_or, if_true, if_false, and_self, and_true, true_and, not_true_eq_false, not_false_eq_true]
    · show Rfrag (μ 51 0 + 1) (μ 51 0 + 1) (upd (μ 52) (μ 51 0).toNatClampNeg a) (upd (μ 129) (μ 51 0).toNatClampNeg a) (μ 53) (μ 130) (μ 54) (μ 131)
      have t1 : (1 : Int32).toInt = 1 := rfl
      have t3 : (3 : Int32).toInt = 3 := rfl
      have t0 : (0 : Int32).toInt = 0 := rfl
      have e : (μ 51 0 + 1).toInt = (μ 51 0).toInt + 1 := by rw [i32_add] <;> omega
      have c3 := c2.1
      have c4 := c2.2
      rw [i32_le] at c3 c4
      exact ⟨rfl, by omega, by omega, by rw [g4], g5, g6, upd_all (P := fun z => 0 ≤ z.toInt ∧ z.toInt ≤ 3) g7 (by omega), g8, g9⟩
    · exact zfr_92 (zfr_up (zfr_92 (zfr_up (zfr_up (zfr_rf _ _ _) (by decide) (by decide)) (by decide) (by decide)) (by decide)) (by decide) (by decide)) (by decide)
  · refine ⟨(-1), μ, zup μ 92 0 0, ?_, ?_, hR, zfr_92 (zfr_rf _ _ _) (by decide)⟩
    · rw [B_X11_fragment]
      by_cases c1 : μ 51 0 < 8 <;> by_cases c2 : 0 ≤ a ∧ a ≤ 3 <;> try simp only [B_X3_add, B_X3_add_15, F_within, B_X11_fragment_8, q1, q2, c1, c2, zbi_some, zbi_none, zbi_ite, zb_ite0, zb_or, b01_0, b01_1, b10, or_true, true_or, if_true, if_false, and_self, and_true, true_and, not_true_eq_false, not_false_eq_true]
      exact absurd ⟨c1, c2⟩ hall
    · rw [B_X12_fragment]
      have er92_56 : (zup μ 92 0 0) 92 56 = μ 92 56 := rfl
      by_cases c1 : μ 51 0 < 8 <;> by_cases c2 : 0 ≤ a ∧ a ≤ 3 <;> try simp only [B_X12_fragment_12, F_isIn, ← g1, q1, q2, er92_56, c1, c2, zbi_some, zbi_none, zbi_ite, zb_ite0, zb_or, b01_0, b01_1, b10, or_true, true_or, if_true, if_false, and_self, and_true, true_and, not_true_eq_false, not_false_eq_true]
      exact absurd ⟨c1, c2⟩ hall


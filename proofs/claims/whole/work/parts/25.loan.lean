/-! PLAIN CALLS of the loans -/
def Rnow (nx nm : Int32) : Prop := nx = nm ∧ 0 ≤ nx.toInt ∧ nx.toInt ≤ 99
abbrev RnowM (μ : zMu) : Prop := Rnow (μ 1 11) (μ 92 1)
def zin2 (f : Nat → Int32) (lo hi : Int) : Prop := ∀ i, lo ≤ (f i).toInt ∧ (f i).toInt ≤ hi
theorem zin2_upd {f : Nat → Int32} {lo hi : Int} {k : Nat} {x : Int32} (h : zin2 f lo hi) (h1 : lo ≤ x.toInt) (h2 : x.toInt ≤ hi) : zin2 (upd f k x) lo hi := upd_all (P := fun z => lo ≤ z.toInt ∧ z.toInt ≤ hi) h ⟨h1, h2⟩
def Rloan (cx px cm pm : Int32) (r83 r157 r84 r165 r85 r159 r86 r160 r87 r158 r88 r161 r89 r162 r90 r163 r91 r164 : Nat → Int32) : Prop :=
  cx = cm ∧ px = pm ∧ (0 ≤ cx.toInt ∧ cx.toInt ≤ 40) ∧ (0 ≤ px.toInt ∧ px.toInt ≤ 200) ∧ (r83 = r157 ∧ r84 = r165 ∧ r85 = r159 ∧ r86 = r160 ∧ r87 = r158 ∧ r88 = r161 ∧ r89 = r162 ∧ r90 = r163 ∧ r91 = r164) ∧
  zin2 r83 0 100 ∧ zin2 r84 0 1 ∧ zin2 r85 0 7 ∧ zin2 r86 0 99999 ∧ zin2 r87 0 99 ∧ zin2 r88 0 39 ∧ zin2 r89 0 99 ∧ zin2 r90 0 99 ∧ zin2 r91 0 99999
abbrev RloanM (μ : zMu) : Prop := Rloan (μ 82 2) (μ 82 6) (μ 92 96) (μ 92 100) (μ 83) (μ 157) (μ 84) (μ 165) (μ 85) (μ 159) (μ 86) (μ 160) (μ 87) (μ 158) (μ 88) (μ 161) (μ 89) (μ 162) (μ 90) (μ 163) (μ 91) (μ 164)
abbrev RnlM (μ : zMu) : Prop := RnowM μ ∧ RloanM μ
theorem ag_interest (d len : Nat) (μ : zMu) (ν : zNu) (a : Int32) (b : Int32) (h : RnlM μ) : ∃ (v : Int32) (μ1 μ2 : zMu), zF zT0 (d + 8) 168 [.ref 1, .int a, .int b] (zm len μ ν) = some (.int v, zm len μ1 ν) ∧ zF zT0 (d + 8) 281 [.ref 92, .int a, .int b] (zm len μ1 ν) = some (.int v, zm len μ2 ν) ∧ RnlM μ2 ∧ zfr [83, 157] [0] μ μ2 := by
  have hR := h
  obtain ⟨⟨n1, n2, n3⟩, g1, g2, g3, g4, ⟨e1, e2, e3, e4, e5, e6, e7, e8, e9⟩, w1, w2, w3, w4, w5, w6, w7, w8, w9⟩ := h
  have hb : (0 ≤ a ∧ a ≤ 7) → 0 ≤ a.toInt ∧ a.toInt < ((8 : Nat) : Int) := by intro z; have z1 := z.1; have z2 := z.2; rw [i32_le] at z1 z2; have y0 : (0 : Int32).toInt = 0 := rfl; have y7 : (7 : Int32).toInt = 7 := rfl; omega
  by_cases hall : (0 ≤ a ∧ a ≤ 7) ∧ (0 ≤ b ∧ b ≤ 100)
  · obtain ⟨c1, c2⟩ := hall
    refine ⟨1, (zup μ 83 a.toNatClampNeg b), (zup (zup (zup μ 83 a.toNatClampNeg b) 92 0 0) 157 a.toNatClampNeg b), ?_, ?_, ?_, ?_⟩
    · rw [B_X11_interest]
      simp only [B_X4_setInterest, F_X11_isGood, B_X4_setInterest_4, F_within, B_X4_setInterest_14, B_X11_interest_9, hb, c1, c2, zbi_some, zbi_none, zbi_ite, zb_ite0, zb_or, b01_0, b01_1, b10, or_true, true_or, if_true, if_false, and_self, and_true, true_and, not_true_eq_false, not_false_eq_true]
    · rw [B_X12_interest]
      simp only [F_X12_isGood, B_X12_interest_10, F_isIn, B_X12_interest_21, hb, c1, c2, zbi_some, zbi_none, zbi_ite, zb_ite0, zb_or, b01_0, b01_1, b10, or_true, true_or, if_true, if_false, and_self, and_true, true_and, not_true_eq_false, not_false_eq_true]
    · show Rnow (μ 1 11) (μ 92 1) ∧ Rloan (μ 82 2) (μ 82 6) (μ 92 96) (μ 92 100) (upd (μ 83) a.toNatClampNeg b) (upd (μ 157) a.toNatClampNeg b) (μ 84) (μ 165) (μ 85) (μ 159) (μ 86) (μ 160) (μ 87) (μ 158) (μ 88) (μ 161) (μ 89) (μ 162) (μ 90) (μ 163) (μ 91) (μ 164)
      have k1 := c2.1
      have k2 := c2.2
      have t0 : (0 : Int32).toInt = 0 := rfl
      have t100 : (100 : Int32).toInt = 100 := rfl
      rw [i32_le] at k1 k2
      exact ⟨⟨n1, n2, n3⟩, g1, g2, g3, g4, ⟨(by rw [e1]), e2, e3, e4, e5, e6, e7, e8, e9⟩, zin2_upd w1 (by omega) (by omega), w2, w3, w4, w5, w6, w7, w8, w9⟩
    · exact zfr_up (zfr_92 (zfr_up (zfr_rf _ _ _) (by decide) (by decide)) (by decide)) (by decide) (by decide)
  · refine ⟨0, μ, zup μ 92 0 0, ?_, ?_, hR, zfr_92 (zfr_rf _ _ _) (by decide)⟩
    · rw [B_X11_interest]
      by_cases c1 : 0 ≤ a ∧ a ≤ 7 <;> by_cases c2 : 0 ≤ b ∧ b ≤ 100 <;> try simp only [B_X4_setInterest, F_X11_isGood, B_X4_setInterest_4, F_within, B_X4_setInterest_14, B_X11_interest_9, hb, c1, c2, zbi_some, zbi_none, zbi_ite, zb_ite0, zb_or, b01_0, b01_1, b10, or_true, true_or, if_true, if_false, and_self, and_true, true_and, not_true_eq_false, not_false_eq_true]
      exact absurd ⟨c1, c2⟩ hall
    · rw [B_X12_interest]
      by_cases c1 : 0 ≤ a ∧ a ≤ 7 <;> by_cases c2 : 0 ≤ b ∧ b ≤ 100 <;> try simp only [F_X12_isGood, B_X12_interest_10, F_isIn, B_X12_interest_21, hb, c1, c2, zbi_some, zbi_none, zbi_ite, zb_ite0, zb_or, b01_0, b01_1, b10, or_true, true_or, if_true, if_false, and_self, and_true, true_and, not_true_eq_false, not_false_eq_true]
      exact absurd ⟨c1, c2⟩ hall

theorem ag_pay (d len : Nat) (μ : zMu) (ν : zNu) (a : Int32) (b : Int32) (c : Int32) (h : RnlM μ) : ∃ (v : Int32) (μ1 μ2 : zMu), zF zT0 (d + 8) 170 [.ref 1, .int a, .int b, .int c] (zm len μ ν) = some (.int v, zm len μ1 ν) ∧ zF zT0 (d + 8) 284 [.ref 92, .int a, .int b, .int c] (zm len μ1 ν) = some (.int v, zm len μ2 ν) ∧ RnlM μ2 ∧ zfr [82, 88, 89, 90, 91, 161, 162, 163, 164] [0, 100] μ μ2 := by
  have hR := h
  obtain ⟨⟨n1, n2, n3⟩, g1, g2, g3, g4, ⟨e1, e2, e3, e4, e5, e6, e7, e8, e9⟩, w1, w2, w3, w4, w5, w6, w7, w8, w9⟩ := h
  have q0 : (a ≤ μ 82 2 - 1) = (a < μ 82 2) := propext (i32_pred g3.1)
  have q2 : ((200 : Int32) ≤ μ 82 6) = ¬ (μ 82 6 < 200) := propext ⟨fun q z => i32_nle.mpr z q, fun q => i32_nlt.mp q⟩
  have q3 : (μ 82 6 = 200) = ¬ (μ 82 6 < 200) := by have t8 : (200 : Int32).toInt = 200 := rfl; rw [i32_lt, i32_eq]; apply propext; omega
  have hb1 : (0 ≤ a ∧ a < μ 82 2) → 0 ≤ a.toInt ∧ a.toInt < ((40 : Nat) : Int) := by intro z; have z1 := z.1; have z2 := z.2; rw [i32_le] at z1; rw [i32_lt] at z2; have y0 : (0 : Int32).toInt = 0 := rfl; omega
  have hb2 : (μ 82 6 < 200) → 0 ≤ (μ 82 6).toInt ∧ (μ 82 6).toInt < ((200 : Nat) : Int) := by intro z; rw [i32_lt] at z; have y0 : (200 : Int32).toInt = 200 := rfl; omega
  by_cases hall : (0 ≤ a ∧ a < μ 82 2) ∧ (μ 82 6 < 200) ∧ (1 ≤ c ∧ c ≤ 99999) ∧ (μ 87 a.toNatClampNeg ≤ b ∧ b ≤ μ 1 11)
  · obtain ⟨c1, c2, c3, c4⟩ := hall
    refine ⟨1, (zup (zup (zup (zup (zup μ 88 (μ 82 6).toNatClampNeg a) 89 (μ 82 6).toNatClampNeg b) 90 (μ 82 6).toNatClampNeg (μ 1 11)) 91 (μ 82 6).toNatClampNeg c) 82 6 (μ 82 6 + 1)), (zup (zup (zup (zup (zup (zup (zup (zup (zup (zup (zup μ 88 (μ 82 6).toNatClampNeg a) 89 (μ 82 6).toNatClampNeg b) 90 (μ 82 6).toNatClampNeg (μ 1 11)) 91 (μ 82 6).toNatClampNeg c) 82 6 (μ 82 6 + 1)) 92 0 0) 161 (μ 82 6).toNatClampNeg a) 162 (μ 82 6).toNatClampNeg b) 163 (μ 82 6).toNatClampNeg (μ 1 11)) 164 (μ 82 6).toNatClampNeg c) 92 100 (μ 82 6 + 1)), ?_, ?_, ?_, ?_⟩
    · rw [B_X11_pay]
      simp only [B_X4_addPayment, F_within, B_X4_addPayment_11, B_X4_addPayment_32, B_X4_addPayment_46, B_X11_pay_14, q0, q2, q3, hb1, hb2, c1, c2, c3, c4, zbi_some, zbi_none, zbi_ite, zb_ite0, zb_or, b01_0, b01_1, b10, or_true, true_or, if_true, if_false, and_self, and_true, true_and, not_true_eq_false, not_false_eq_true]
    · rw [B_X12_pay]
      have er92_1 : (zup (zup (zup (zup (zup (zup μ 88 (μ 82 6).toNatClampNeg a) 89 (μ 82 6).toNatClampNeg b) 90 (μ 82 6).toNatClampNeg (μ 1 11)) 91 (μ 82 6).toNatClampNeg c) 82 6 (μ 82 6 + 1)) 92 0 0) 92 1 = μ 92 1 := rfl
      have er92_96 : (zup (zup (zup (zup (zup (zup μ 88 (μ 82 6).toNatClampNeg a) 89 (μ 82 6).toNatClampNeg b) 90 (μ 82 6).toNatClampNeg (μ 1 11)) 91 (μ 82 6).toNatClampNeg c) 82 6 (μ 82 6 + 1)) 92 0 0) 92 96 = μ 92 96 := rfl
      have er92_100 : (zup (zup (zup (zup (zup (zup μ 88 (μ 82 6).toNatClampNeg a) 89 (μ 82 6).toNatClampNeg b) 90 (μ 82 6).toNatClampNeg (μ 1 11)) 91 (μ 82 6).toNatClampNeg c) 82 6 (μ 82 6 + 1)) 92 0 0) 92 100 = μ 92 100 := rfl
      have er158 : (zup (zup (zup (zup (zup (zup μ 88 (μ 82 6).toNatClampNeg a) 89 (μ 82 6).toNatClampNeg b) 90 (μ 82 6).toNatClampNeg (μ 1 11)) 91 (μ 82 6).toNatClampNeg c) 82 6 (μ 82 6 + 1)) 92 0 0) 158 = μ 158 := rfl
      simp only [F_X12_isLoan, B_X12_pay_10, F_isIn, B_X12_pay_28, B_X12_pay_40, ← n1, ← g1, ← g2, ← e5, q0, q2, q3, hb1, hb2, er92_1, er92_96, er92_100, er158, c1, c2, c3, c4, zbi_some, zbi_none, zbi_ite, zb_ite0, zb_or, b01_0, b01_1, b10, or_true, true_or, if_true, if_false, and_self, and_true, true_and, not_true_eq_false, not_false_eq_true]
    · show Rnow (μ 1 11) (μ 92 1) ∧ Rloan (μ 82 2) (μ 82 6 + 1) (μ 92 96) (μ 82 6 + 1) (μ 83) (μ 157) (μ 84) (μ 165) (μ 85) (μ 159) (μ 86) (μ 160) (μ 87) (μ 158) (upd (μ 88) (μ 82 6).toNatClampNeg a) (upd (μ 161) (μ 82 6).toNatClampNeg a) (upd (μ 89) (μ 82 6).toNatClampNeg b) (upd (μ 162) (μ 82 6).toNatClampNeg b) (upd (μ 90) (μ 82 6).toNatClampNeg (μ 1 11)) (upd (μ 163) (μ 82 6).toNatClampNeg (μ 1 11)) (upd (μ 91) (μ 82 6).toNatClampNeg c) (upd (μ 164) (μ 82 6).toNatClampNeg c)
      have k1 := c1.1
      have k2 := c1.2
      have k3 := c3.1
      have k4 := c3.2
      have k5 := c4.1
      have k6 := c4.2
      have t0 : (0 : Int32).toInt = 0 := rfl
      have t1 : (1 : Int32).toInt = 1 := rfl
      have t200 : (200 : Int32).toInt = 200 := rfl
      have t99999 : (99999 : Int32).toInt = 99999 := rfl
      have w5a := w5 a.toNatClampNeg
      rw [i32_le] at k1 k3 k4 k5 k6
      rw [i32_lt] at k2 c2
      have e : (μ 82 6 + 1).toInt = (μ 82 6).toInt + 1 := by rw [i32_add] <;> omega
      exact ⟨⟨n1, n2, n3⟩, g1, rfl, g3, (by omega), ⟨e1, e2, e3, e4, e5, (by rw [e6]), (by rw [e7]), (by rw [e8]), (by rw [e9])⟩, w1, w2, w3, w4, w5, zin2_upd w6 (by omega) (by omega), zin2_upd w7 (by omega) (by omega), zin2_upd w8 (by omega) (by omega), zin2_upd w9 (by omega) (by omega)⟩
    · exact zfr_92 (zfr_up (zfr_up (zfr_up (zfr_up (zfr_92 (zfr_up (zfr_up (zfr_up (zfr_up (zfr_up (zfr_rf _ _ _) (by decide) (by decide)) (by decide) (by decide)) (by decide) (by decide)) (by decide) (by decide)) (by decide) (by decide)) (by decide)) (by decide) (by decide)) (by decide) (by decide)) (by decide) (by decide)) (by decide) (by decide)) (by decide)
  · refine ⟨0, μ, zup μ 92 0 0, ?_, ?_, hR, zfr_92 (zfr_rf _ _ _) (by decide)⟩
    · rw [B_X11_pay]
      by_cases c1 : 0 ≤ a ∧ a < μ 82 2 <;> by_cases c2 : μ 82 6 < 200 <;> by_cases c3 : 1 ≤ c ∧ c ≤ 99999 <;> by_cases c4 : μ 87 a.toNatClampNeg ≤ b ∧ b ≤ μ 1 11 <;> try simp only [B_X4_addPayment, F_within, B_X4_addPayment_11, B_X4_addPayment_32, B_X4_addPayment_46, B_X11_pay_14, q0, q2, q3, hb1, hb2, c1, c2, c3, c4, zbi_some, zbi_none, zbi_ite, zb_ite0, zb_or, b01_0, b01_1, b10, or_true, true_or, if_true, if_false, and_self, and_true, true_and, not_true_eq_false, not_false_eq_true]
      exact absurd ⟨c1, c2, c3, c4⟩ hall
    · rw [B_X12_pay]
      have er92_1 : (zup μ 92 0 0) 92 1 = μ 92 1 := rfl
      have er92_96 : (zup μ 92 0 0) 92 96 = μ 92 96 := rfl
      have er92_100 : (zup μ 92 0 0) 92 100 = μ 92 100 := rfl
      have er158 : (zup μ 92 0 0) 158 = μ 158 := rfl
      by_cases c1 : 0 ≤ a ∧ a < μ 82 2 <;> by_cases c2 : μ 82 6 < 200 <;> by_cases c3 : 1 ≤ c ∧ c ≤ 99999 <;> by_cases c4 : μ 87 a.toNatClampNeg ≤ b ∧ b ≤ μ 1 11 <;> try simp only [F_X12_isLoan, B_X12_pay_10, F_isIn, B_X12_pay_28, B_X12_pay_40, ← n1, ← g1, ← g2, ← e5, q0, q2, q3, hb1, hb2, er92_1, er92_96, er92_100, er158, c1, c2, c3, c4, zbi_some, zbi_none, zbi_ite, zb_ite0, zb_or, b01_0, b01_1, b10, or_true, true_or, if_true, if_false, and_self, and_true, true_and, not_true_eq_false, not_false_eq_true]
      exact absurd ⟨c1, c2, c3, c4⟩ hall


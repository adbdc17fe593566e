/-! ROWS: the class's side -/
theorem upd_upd (f : Nat → Int32) (k : Nat) (x y : Int32) : upd (upd f k x) k y = upd f k y := by
  funext j
  by_cases h : j = k
  · rw [h, upd_eq, upd_eq]
  · rw [upd_ne _ _ h, upd_ne _ _ h, upd_ne _ _ h]
def gpF (H : Nat → Int32) (L R : Nat → Int) (f g : Nat) : Int := (if H f = H g then 0 else 15) + sm 5 (fun i => ab (R (5 * f + i) + L (5 * g + i)))
theorem gpF_b {H : Nat → Int32} {L R : Nat → Int} (hL : ∀ i, -9 ≤ L i ∧ L i ≤ 9) (hR : ∀ i, -9 ≤ R i ∧ R i ≤ 9) (f g : Nat) : 0 ≤ gpF H L R f g ∧ gpF H L R f g ≤ 105 := by
  have := sm_b (n := 5) (f := fun i => ab (R (5 * f + i) + L (5 * g + i))) (B := 18) (fun j hj => by
    have h1 := hL (5 * g + j)
    have h2 := hR (5 * f + j)
    show 0 ≤ ab (R (5 * f + j) + L (5 * g + j)) ∧ ab (R (5 * f + j) + L (5 * g + j)) ≤ 18
    unfold ab
    split <;> omega)
  unfold gpF
  split <;> omega
theorem F_gapC (d len : Nat) (μ : zMu) (ν : zNu) (f g : Nat) (L R : Nat → Int) (hf : f < 8) (hg : g < 8) (hL : ∀ i, μ 53 i = zi (L i) ∧ -9 ≤ L i ∧ L i ≤ 9) (hR : ∀ i, μ 54 i = zi (R i) ∧ -9 ≤ R i ∧ R i ≤ 9) : zF zT0 (d + 1) 47 [.ref 51, .int (zi (f : Int)), .int (zi (g : Int))] (zm len μ ν) = some (.int (zi (gpF (μ 52) L R f g)), zm len μ ν) := by
  have K := fun c : Int => zloop (f := fun j => zE zc_X3_gapOf (zF zT0 d) 25 [.ref 51, .int (zi (f : Int)), .int (zi (g : Int)), .int (zi (c + sm j (fun i => ab (R (5 * f + i) + L (5 * g + i))))), .int (zi (j : Int))] [] (zm len μ ν)) (n := 5) (fun j hj => by
    have i1 : ((f : Int) * 5 + (j : Int)).toNat = 5 * f + j := by omega
    have i2 : ((g : Int) * 5 + (j : Int)).toNat = 5 * g + j := by omega
    have h1 := hL (5 * g + j)
    have h2 := hR (5 * f + j)
    show zE _ _ _ _ _ _ = zE _ _ _ _ _ _
    rw [B_X3_gapOf_25]
    simp (disch := omega) only [i1, i2, h1.1, h2.1, zi_ite, Int.zero_sub, sm_S, Int.add_assoc, zbi_some, zbl_some, zbv_some, zbi_none, zbl_none, zbv_none, zbi_ite, zbl_ite, zbv_ite, zbZ, zbO, zc_lt, zc_le, zc_ge, zc_gt, zc_eq, zk0, zk1, zk2, zk3, zk4, zk5, zk6, zk7, zk8, zk9, zk10, zk11, zk12, zk14, zk15, zk16, zk17, zk19, zk20, zk21, zk24, zk25, zk30, zk32, zk36, zk40, zk45, zk50, zk64, zk97, zk99, zk100, zk102, zk122, zk128, zk255, zk800, zk801, zk900, zk999, zk1000, zk1997, zk9999, zk10000, zk100000, zk99999, zk9999999, zk999999999, zk2147483647, zlc0, zlc1, zlc2, zlc3, zlc4, zlc23, zlc99, zlc100, zlc9999999, zlc999999999999, zlc1073741824, zi_neg, zi_add, zi_sub, zi_mul, zl_neg, zl_add, zl_sub, zl_mul, zi_toInt, zi_nat, zi_le, zi_lt, zi_eq, zl_le, zl_lt, zl_eq, zl_toInt, zl_of32, zi_of64, zi_div, zl_div, zmodI, ↓reduceIte, zTle, zFle, zTlt, zFlt, zTeq, zFeq, if_true, if_false, and_self, and_true, true_and, and_false, false_and, or_self, or_true, true_or, or_false, false_or, not_true_eq_false, not_false_eq_true, zcastA, zcastL, znatC, zab, Int.reduceAdd, Int.reduceSub, Int.reduceMul, Int.reduceNeg, Int.reduceToNat, Nat.reduceAdd])
  have fin : ∀ c : Int, zE zc_X3_gapOf (zF zT0 d) 25 [.ref 51, .int (zi (f : Int)), .int (zi (g : Int)), .int (zi c), .int (zi 0)] [] (zm len μ ν) = some (.int (zi (c + sm 5 (fun i => ab (R (5 * f + i) + L (5 * g + i))))), zm len μ ν) := fun c => by
    have K0 : zE zc_X3_gapOf (zF zT0 d) 25 [.ref 51, .int (zi (f : Int)), .int (zi (g : Int)), .int (zi (c + 0)), .int (zi 0)] [] (zm len μ ν) = zE zc_X3_gapOf (zF zT0 d) 25 [.ref 51, .int (zi (f : Int)), .int (zi (g : Int)), .int (zi (c + sm 5 (fun i => ab (R (5 * f + i) + L (5 * g + i))))), .int (zi 5)] [] (zm len μ ν) := K c
    rw [Int.add_zero] at K0
    rw [K0, B_X3_gapOf_25]
    simp (disch := omega) only [zbi_some, zbl_some, zbv_some, zbi_none, zbl_none, zbv_none, zbi_ite, zbl_ite, zbv_ite, zbZ, zbO, zc_lt, zc_le, zc_ge, zc_gt, zc_eq, zk0, zk1, zk2, zk3, zk4, zk5, zk6, zk7, zk8, zk9, zk10, zk11, zk12, zk14, zk15, zk16, zk17, zk19, zk20, zk21, zk24, zk25, zk30, zk32, zk36, zk40, zk45, zk50, zk64, zk97, zk99, zk100, zk102, zk122, zk128, zk255, zk800, zk801, zk900, zk999, zk1000, zk1997, zk9999, zk10000, zk100000, zk99999, zk9999999, zk999999999, zk2147483647, zlc0, zlc1, zlc2, zlc3, zlc4, zlc23, zlc99, zlc100, zlc9999999, zlc999999999999, zlc1073741824, zi_neg, zi_add, zi_sub, zi_mul, zl_neg, zl_add, zl_sub, zl_mul, zi_toInt, zi_nat, zi_le, zi_lt, zi_eq, zl_le, zl_lt, zl_eq, zl_toInt, zl_of32, zi_of64, zi_div, zl_div, zmodI, ↓reduceIte, zTle, zFle, zTlt, zFlt, zTeq, zFeq, if_true, if_false, and_self, and_true, true_and, and_false, false_and, or_self, or_true, true_or, or_false, false_or, not_true_eq_false, not_false_eq_true, zcastA, zcastL, znatC, zab, Int.reduceAdd, Int.reduceSub, Int.reduceMul, Int.reduceNeg, Int.reduceToNat, Nat.reduceAdd]
  rw [B_X3_gapOf]
  unfold gpF
  by_cases q : μ 52 f = μ 52 g
  · simp (disch := omega) only [q, B_X3_gapOf_21, fin, zbi_some, zbl_some, zbv_some, zbi_none, zbl_none, zbv_none, zbi_ite, zbl_ite, zbv_ite, zbZ, zbO, zc_lt, zc_le, zc_ge, zc_gt, zc_eq, zk0, zk1, zk2, zk3, zk4, zk5, zk6, zk7, zk8, zk9, zk10, zk11, zk12, zk14, zk15, zk16, zk17, zk19, zk20, zk21, zk24, zk25, zk30, zk32, zk36, zk40, zk45, zk50, zk64, zk97, zk99, zk100, zk102, zk122, zk128, zk255, zk800, zk801, zk900, zk999, zk1000, zk1997, zk9999, zk10000, zk100000, zk99999, zk9999999, zk999999999, zk2147483647, zlc0, zlc1, zlc2, zlc3, zlc4, zlc23, zlc99, zlc100, zlc9999999, zlc999999999999, zlc1073741824, zi_neg, zi_add, zi_sub, zi_mul, zl_neg, zl_add, zl_sub, zl_mul, zi_toInt, zi_nat, zi_le, zi_lt, zi_eq, zl_le, zl_lt, zl_eq, zl_toInt, zl_of32, zi_of64, zi_div, zl_div, zmodI, ↓reduceIte, zTle, zFle, zTlt, zFlt, zTeq, zFeq, if_true, if_false, and_self, and_true, true_and, and_false, false_and, or_self, or_true, true_or, or_false, false_or, not_true_eq_false, not_false_eq_true, zcastA, zcastL, znatC, zab, Int.reduceAdd, Int.reduceSub, Int.reduceMul, Int.reduceNeg, Int.reduceToNat, Nat.reduceAdd]
  · simp (disch := omega) only [q, B_X3_gapOf_21, fin, zbi_some, zbl_some, zbv_some, zbi_none, zbl_none, zbv_none, zbi_ite, zbl_ite, zbv_ite, zbZ, zbO, zc_lt, zc_le, zc_ge, zc_gt, zc_eq, zk0, zk1, zk2, zk3, zk4, zk5, zk6, zk7, zk8, zk9, zk10, zk11, zk12, zk14, zk15, zk16, zk17, zk19, zk20, zk21, zk24, zk25, zk30, zk32, zk36, zk40, zk45, zk50, zk64, zk97, zk99, zk100, zk102, zk122, zk128, zk255, zk800, zk801, zk900, zk999, zk1000, zk1997, zk9999, zk10000, zk100000, zk99999, zk9999999, zk999999999, zk2147483647, zlc0, zlc1, zlc2, zlc3, zlc4, zlc23, zlc99, zlc100, zlc9999999, zlc999999999999, zlc1073741824, zi_neg, zi_add, zi_sub, zi_mul, zl_neg, zl_add, zl_sub, zl_mul, zi_toInt, zi_nat, zi_le, zi_lt, zi_eq, zl_le, zl_lt, zl_eq, zl_toInt, zl_of32, zi_of64, zi_div, zl_div, zmodI, ↓reduceIte, zTle, zFle, zTlt, zFlt, zTeq, zFeq, if_true, if_false, and_self, and_true, true_and, and_false, false_and, or_self, or_true, true_or, or_false, false_or, not_true_eq_false, not_false_eq_true, zcastA, zcastL, znatC, zab, Int.reduceAdd, Int.reduceSub, Int.reduceMul, Int.reduceNeg, Int.reduceToNat, Nat.reduceAdd]
theorem F_gapM (d len : Nat) (μ : zMu) (ν : zNu) (f g : Nat) (L R : Nat → Int) (hf : f < 8) (hg : g < 8) (hL : ∀ i, μ 130 i = zi (L i) ∧ -9 ≤ L i ∧ L i ≤ 9) (hR : ∀ i, μ 131 i = zi (R i) ∧ -9 ≤ R i ∧ R i ≤ 9) : zF zT0 (d + 1) 245 [.ref 92, .int (zi (f : Int)), .int (zi (g : Int))] (zm len μ ν) = some (.int (zi (gpF (μ 129) L R f g)), zm len μ ν) := by
  have K := fun c : Int => zloopV (f := fun j v => zE zc_X12_gap (zF zT0 d) 25 [.ref 92, .int (zi (f : Int)), .int (zi (g : Int)), .int (zi (c + sm j (fun i => ab (R (5 * f + i) + L (5 * g + i))))), .int (zi (j : Int)), v] [] (zm len μ ν)) (n := 5) (fun j v hj => by
    have i1 : (5 * (f : Int) + (j : Int)).toNat = 5 * f + j := by omega
    have i2 : (5 * (g : Int) + (j : Int)).toNat = 5 * g + j := by omega
    have h1 := hL (5 * g + j)
    have h2 := hR (5 * f + j)
    refine ⟨.int (zi (R (5 * f + j) + L (5 * g + j))), ?_⟩
    show zE _ _ _ _ _ _ = zE _ _ _ _ _ _
    rw [B_X12_gap_25]
    by_cases z : 0 ≤ R (5 * f + j) + L (5 * g + j)
    · have ea : ab (R (5 * f + j) + L (5 * g + j)) = R (5 * f + j) + L (5 * g + j) := if_pos z
      simp (disch := omega) only [i1, i2, h1.1, h2.1, B_X12_gap_70, sm_S, Int.add_assoc, ea, zbi_some, zbl_some, zbv_some, zbi_none, zbl_none, zbv_none, zbi_ite, zbl_ite, zbv_ite, zbZ, zbO, zc_lt, zc_le, zc_ge, zc_gt, zc_eq, zk0, zk1, zk2, zk3, zk4, zk5, zk6, zk7, zk8, zk9, zk10, zk11, zk12, zk14, zk15, zk16, zk17, zk19, zk20, zk21, zk24, zk25, zk30, zk32, zk36, zk40, zk45, zk50, zk64, zk97, zk99, zk100, zk102, zk122, zk128, zk255, zk800, zk801, zk900, zk999, zk1000, zk1997, zk9999, zk10000, zk100000, zk99999, zk9999999, zk999999999, zk2147483647, zlc0, zlc1, zlc2, zlc3, zlc4, zlc23, zlc99, zlc100, zlc9999999, zlc999999999999, zlc1073741824, zi_neg, zi_add, zi_sub, zi_mul, zl_neg, zl_add, zl_sub, zl_mul, zi_toInt, zi_nat, zi_le, zi_lt, zi_eq, zl_le, zl_lt, zl_eq, zl_toInt, zl_of32, zi_of64, zi_div, zl_div, zmodI, ↓reduceIte, zTle, zFle, zTlt, zFlt, zTeq, zFeq, if_true, if_false, and_self, and_true, true_and, and_false, false_and, or_self, or_true, true_or, or_false, false_or, not_true_eq_false, not_false_eq_true, zcastA, zcastL, znatC, zab, Int.reduceAdd, Int.reduceSub, Int.reduceMul, Int.reduceNeg, Int.reduceToNat, Nat.reduceAdd]
    · have ea : ab (R (5 * f + j) + L (5 * g + j)) = -(R (5 * f + j) + L (5 * g + j)) := if_neg z
      simp (disch := omega) only [i1, i2, h1.1, h2.1, B_X12_gap_70, sm_S, Int.add_assoc, ea, zbi_some, zbl_some, zbv_some, zbi_none, zbl_none, zbv_none, zbi_ite, zbl_ite, zbv_ite, zbZ, zbO, zc_lt, zc_le, zc_ge, zc_gt, zc_eq, zk0, zk1, zk2, zk3, zk4, zk5, zk6, zk7, zk8, zk9, zk10, zk11, zk12, zk14, zk15, zk16, zk17, zk19, zk20, zk21, zk24, zk25, zk30, zk32, zk36, zk40, zk45, zk50, zk64, zk97, zk99, zk100, zk102, zk122, zk128, zk255, zk800, zk801, zk900, zk999, zk1000, zk1997, zk9999, zk10000, zk100000, zk99999, zk9999999, zk999999999, zk2147483647, zlc0, zlc1, zlc2, zlc3, zlc4, zlc23, zlc99, zlc100, zlc9999999, zlc999999999999, zlc1073741824, zi_neg, zi_add, zi_sub, zi_mul, zl_neg, zl_add, zl_sub, zl_mul, zi_toInt, zi_nat, zi_le, zi_lt, zi_eq, zl_le, zl_lt, zl_eq, zl_toInt, zl_of32, zi_of64, zi_div, zl_div, zmodI, ↓reduceIte, zTle, zFle, zTlt, zFlt, zTeq, zFeq, if_true, if_false, and_self, and_true, true_and, and_false, false_and, or_self, or_true, true_or, or_false, false_or, not_true_eq_false, not_false_eq_true, zcastA, zcastL, znatC, zab, Int.reduceAdd, Int.reduceSub, Int.reduceMul, Int.reduceNeg, Int.reduceToNat, Nat.reduceAdd])
  have fin : ∀ c : Int, zE zc_X12_gap (zF zT0 d) 25 [.ref 92, .int (zi (f : Int)), .int (zi (g : Int)), .int (zi c), .int (zi 0), zU] [] (zm len μ ν) = some (.int (zi (c + sm 5 (fun i => ab (R (5 * f + i) + L (5 * g + i))))), zm len μ ν) := fun c => by
    obtain ⟨v', K1⟩ := K c zU
    have K0 : zE zc_X12_gap (zF zT0 d) 25 [.ref 92, .int (zi (f : Int)), .int (zi (g : Int)), .int (zi (c + 0)), .int (zi 0), zU] [] (zm len μ ν) = zE zc_X12_gap (zF zT0 d) 25 [.ref 92, .int (zi (f : Int)), .int (zi (g : Int)), .int (zi (c + sm 5 (fun i => ab (R (5 * f + i) + L (5 * g + i))))), .int (zi 5), v'] [] (zm len μ ν) := K1
    rw [Int.add_zero] at K0
    rw [K0, B_X12_gap_25]
    simp (disch := omega) only [zbi_some, zbl_some, zbv_some, zbi_none, zbl_none, zbv_none, zbi_ite, zbl_ite, zbv_ite, zbZ, zbO, zc_lt, zc_le, zc_ge, zc_gt, zc_eq, zk0, zk1, zk2, zk3, zk4, zk5, zk6, zk7, zk8, zk9, zk10, zk11, zk12, zk14, zk15, zk16, zk17, zk19, zk20, zk21, zk24, zk25, zk30, zk32, zk36, zk40, zk45, zk50, zk64, zk97, zk99, zk100, zk102, zk122, zk128, zk255, zk800, zk801, zk900, zk999, zk1000, zk1997, zk9999, zk10000, zk100000, zk99999, zk9999999, zk999999999, zk2147483647, zlc0, zlc1, zlc2, zlc3, zlc4, zlc23, zlc99, zlc100, zlc9999999, zlc999999999999, zlc1073741824, zi_neg, zi_add, zi_sub, zi_mul, zl_neg, zl_add, zl_sub, zl_mul, zi_toInt, zi_nat, zi_le, zi_lt, zi_eq, zl_le, zl_lt, zl_eq, zl_toInt, zl_of32, zi_of64, zi_div, zl_div, zmodI, ↓reduceIte, zTle, zFle, zTlt, zFlt, zTeq, zFeq, if_true, if_false, and_self, and_true, true_and, and_false, false_and, or_self, or_true, true_or, or_false, false_or, not_true_eq_false, not_false_eq_true, zcastA, zcastL, znatC, zab, Int.reduceAdd, Int.reduceSub, Int.reduceMul, Int.reduceNeg, Int.reduceToNat, Nat.reduceAdd]
  rw [B_X12_gap]
  unfold gpF
  by_cases q : μ 129 f = μ 129 g
  · simp (disch := omega) only [q, B_X12_gap_21, fin, zbi_some, zbl_some, zbv_some, zbi_none, zbl_none, zbv_none, zbi_ite, zbl_ite, zbv_ite, zbZ, zbO, zc_lt, zc_le, zc_ge, zc_gt, zc_eq, zk0, zk1, zk2, zk3, zk4, zk5, zk6, zk7, zk8, zk9, zk10, zk11, zk12, zk14, zk15, zk16, zk17, zk19, zk20, zk21, zk24, zk25, zk30, zk32, zk36, zk40, zk45, zk50, zk64, zk97, zk99, zk100, zk102, zk122, zk128, zk255, zk800, zk801, zk900, zk999, zk1000, zk1997, zk9999, zk10000, zk100000, zk99999, zk9999999, zk999999999, zk2147483647, zlc0, zlc1, zlc2, zlc3, zlc4, zlc23, zlc99, zlc100, zlc9999999, zlc999999999999, zlc1073741824, zi_neg, zi_add, zi_sub, zi_mul, zl_neg, zl_add, zl_sub, zl_mul, zi_toInt, zi_nat, zi_le, zi_lt, zi_eq, zl_le, zl_lt, zl_eq, zl_toInt, zl_of32, zi_of64, zi_div, zl_div, zmodI, ↓reduceIte, zTle, zFle, zTlt, zFlt, zTeq, zFeq, if_true, if_false, and_self, and_true, true_and, and_false, false_and, or_self, or_true, true_or, or_false, false_or, not_true_eq_false, not_false_eq_true, zcastA, zcastL, znatC, zab, Int.reduceAdd, Int.reduceSub, Int.reduceMul, Int.reduceNeg, Int.reduceToNat, Nat.reduceAdd]
  · simp (disch := omega) only [q, B_X12_gap_21, fin, zbi_some, zbl_some, zbv_some, zbi_none, zbl_none, zbv_none, zbi_ite, zbl_ite, zbv_ite, zbZ, zbO, zc_lt, zc_le, zc_ge, zc_gt, zc_eq, zk0, zk1, zk2, zk3, zk4, zk5, zk6, zk7, zk8, zk9, zk10, zk11, zk12, zk14, zk15, zk16, zk17, zk19, zk20, zk21, zk24, zk25, zk30, zk32, zk36, zk40, zk45, zk50, zk64, zk97, zk99, zk100, zk102, zk122, zk128, zk255, zk800, zk801, zk900, zk999, zk1000, zk1997, zk9999, zk10000, zk100000, zk99999, zk9999999, zk999999999, zk2147483647, zlc0, zlc1, zlc2, zlc3, zlc4, zlc23, zlc99, zlc100, zlc9999999, zlc999999999999, zlc1073741824, zi_neg, zi_add, zi_sub, zi_mul, zl_neg, zl_add, zl_sub, zl_mul, zi_toInt, zi_nat, zi_le, zi_lt, zi_eq, zl_le, zl_lt, zl_eq, zl_toInt, zl_of32, zi_of64, zi_div, zl_div, zmodI, ↓reduceIte, zTle, zFle, zTlt, zFlt, zTeq, zFeq, if_true, if_false, and_self, and_true, true_and, and_false, false_and, or_self, or_true, true_or, or_false, false_or, not_true_eq_false, not_false_eq_true, zcastA, zcastL, znatC, zab, Int.reduceAdd, Int.reduceSub, Int.reduceMul, Int.reduceNeg, Int.reduceToNat, Nat.reduceAdd]
/-- memory with a pair at a slot of 55, 56 -/
def MM (μ : zMu) (k : Nat) (s : Int × Int) : zMu := zrw (zrw μ 55 (upd (μ 55) k (zi s.1))) 56 (upd (μ 56) k (zi s.2))
theorem MM_n (μ : zMu) (k : Nat) (s : Int × Int) {r : Nat} (h1 : r ≠ 55) (h2 : r ≠ 56) : MM μ k s r = μ r := by unfold MM; rw [zrw_n _ _ h2, zrw_n _ _ h1]
theorem MM_55 (μ : zMu) (k : Nat) (s : Int × Int) : MM μ k s 55 = upd (μ 55) k (zi s.1) := by unfold MM; rw [zrw_n _ _ (by decide), zrw_s]
theorem MM_56 (μ : zMu) (k : Nat) (s : Int × Int) : MM μ k s 56 = upd (μ 56) k (zi s.2) := by unfold MM; rw [zrw_s]
theorem MM_up5 (μ : zMu) (k : Nat) (s : Int × Int) (x : Int) : zup (MM μ k s) 55 k (zi x) = MM μ k (x, s.2) := by
  unfold MM
  rw [zup_zrw_n _ _ _ _ (by decide), zup_zrw, upd_upd]
theorem MM_up6 (μ : zMu) (k : Nat) (s : Int × Int) (x : Int) : zup (MM μ k s) 56 k (zi x) = MM μ k (s.1, x) := by
  unfold MM
  rw [zup_zrw, upd_upd]
theorem MM_0 (μ : zMu) (k : Nat) (x y : Int) : zup (zup μ 55 k (zi x)) 56 k (zi y) = MM μ k (x, y) := by
  unfold MM
  rw [zup_rw _ 56, zup_rw _ 55, zrw_n _ _ (by decide)]
theorem F_offer (d len : Nat) (μ : zMu) (ν : zNu) (k : Nat) (s : Int × Int) (v w : Int) (hk : k < 2048) (hv : -1000000 ≤ v ∧ v ≤ 1000000) (hs : -1000000 ≤ s.1 ∧ s.1 ≤ 2147483647) : zF zT0 (d + 1) 46 [.ref 51, .int (zi (k : Int)), .int (zi v), .int (zi w)] (zm len (MM μ k s) ν) = some (.null, zm len (MM μ k (if v < s.1 then (v, w) else if v = s.1 then (s.1, s.2 + w) else s)) ν) := by
  have e5 : MM μ k s 55 k = zi s.1 := by rw [MM_55, upd_eq]
  have e6 : MM μ k s 56 k = zi s.2 := by rw [MM_56, upd_eq]
  rw [B_X3_offer]
  by_cases c : v < s.1
  · have e5' : MM μ k (v, 0) 55 k = zi v := by rw [MM_55, upd_eq]
    have e6' : MM μ k (v, 0) 56 k = zi 0 := by rw [MM_56, upd_eq]
    rw [if_pos c]
    simp (disch := omega) only [e5, MM_up5, MM_up6, B_X3_offer_24, e5', e6', Int.zero_add, zbi_some, zbl_some, zbv_some, zbi_none, zbl_none, zbv_none, zbi_ite, zbl_ite, zbv_ite, zbZ, zbO, zc_lt, zc_le, zc_ge, zc_gt, zc_eq, zk0, zk1, zk2, zk3, zk4, zk5, zk6, zk7, zk8, zk9, zk10, zk11, zk12, zk14, zk15, zk16, zk17, zk19, zk20, zk21, zk24, zk25, zk30, zk32, zk36, zk40, zk45, zk50, zk64, zk97, zk99, zk100, zk102, zk122, zk128, zk255, zk800, zk801, zk900, zk999, zk1000, zk1997, zk9999, zk10000, zk100000, zk99999, zk9999999, zk999999999, zk2147483647, zlc0, zlc1, zlc2, zlc3, zlc4, zlc23, zlc99, zlc100, zlc9999999, zlc999999999999, zlc1073741824, zi_neg, zi_add, zi_sub, zi_mul, zl_neg, zl_add, zl_sub, zl_mul, zi_toInt, zi_nat, zi_le, zi_lt, zi_eq, zl_le, zl_lt, zl_eq, zl_toInt, zl_of32, zi_of64, zi_div, zl_div, zmodI, ↓reduceIte, zTle, zFle, zTlt, zFlt, zTeq, zFeq, if_true, if_false, and_self, and_true, true_and, and_false, false_and, or_self, or_true, true_or, or_false, false_or, not_true_eq_false, not_false_eq_true, zcastA, zcastL, znatC, zab, Int.reduceAdd, Int.reduceSub, Int.reduceMul, Int.reduceNeg, Int.reduceToNat, Nat.reduceAdd]
  · rw [if_neg c]
    by_cases c2 : v = s.1
    · rw [if_pos c2]
      simp (disch := omega) only [e5, B_X3_offer_24, e6, MM_up6, zbi_some, zbl_some, zbv_some, zbi_none, zbl_none, zbv_none, zbi_ite, zbl_ite, zbv_ite, zbZ, zbO, zc_lt, zc_le, zc_ge, zc_gt, zc_eq, zk0, zk1, zk2, zk3, zk4, zk5, zk6, zk7, zk8, zk9, zk10, zk11, zk12, zk14, zk15, zk16, zk17, zk19, zk20, zk21, zk24, zk25, zk30, zk32, zk36, zk40, zk45, zk50, zk64, zk97, zk99, zk100, zk102, zk122, zk128, zk255, zk800, zk801, zk900, zk999, zk1000, zk1997, zk9999, zk10000, zk100000, zk99999, zk9999999, zk999999999, zk2147483647, zlc0, zlc1, zlc2, zlc3, zlc4, zlc23, zlc99, zlc100, zlc9999999, zlc999999999999, zlc1073741824, zi_neg, zi_add, zi_sub, zi_mul, zl_neg, zl_add, zl_sub, zl_mul, zi_toInt, zi_nat, zi_le, zi_lt, zi_eq, zl_le, zl_lt, zl_eq, zl_toInt, zl_of32, zi_of64, zi_div, zl_div, zmodI, ↓reduceIte, zTle, zFle, zTlt, zFlt, zTeq, zFeq, if_true, if_false, and_self, and_true, true_and, and_false, false_and, or_self, or_true, true_or, or_false, false_or, not_true_eq_false, not_false_eq_true, zcastA, zcastL, znatC, zab, Int.reduceAdd, Int.reduceSub, Int.reduceMul, Int.reduceNeg, Int.reduceToNat, Nat.reduceAdd]
    · rw [if_neg c2]
      simp (disch := omega) only [e5, B_X3_offer_24, zbi_some, zbl_some, zbv_some, zbi_none, zbl_none, zbv_none, zbi_ite, zbl_ite, zbv_ite, zbZ, zbO, zc_lt, zc_le, zc_ge, zc_gt, zc_eq, zk0, zk1, zk2, zk3, zk4, zk5, zk6, zk7, zk8, zk9, zk10, zk11, zk12, zk14, zk15, zk16, zk17, zk19, zk20, zk21, zk24, zk25, zk30, zk32, zk36, zk40, zk45, zk50, zk64, zk97, zk99, zk100, zk102, zk122, zk128, zk255, zk800, zk801, zk900, zk999, zk1000, zk1997, zk9999, zk10000, zk100000, zk99999, zk9999999, zk999999999, zk2147483647, zlc0, zlc1, zlc2, zlc3, zlc4, zlc23, zlc99, zlc100, zlc9999999, zlc999999999999, zlc1073741824, zi_neg, zi_add, zi_sub, zi_mul, zl_neg, zl_add, zl_sub, zl_mul, zi_toInt, zi_nat, zi_le, zi_lt, zi_eq, zl_le, zl_lt, zl_eq, zl_toInt, zl_of32, zi_of64, zi_div, zl_div, zmodI, ↓reduceIte, zTle, zFle, zTlt, zFlt, zTeq, zFeq, if_true, if_false, and_self, and_true, true_and, and_false, false_and, or_self, or_true, true_or, or_false, false_or, not_true_eq_false, not_false_eq_true, zcastA, zcastL, znatC, zab, Int.reduceAdd, Int.reduceSub, Int.reduceMul, Int.reduceNeg, Int.reduceToNat, Nat.reduceAdd]
/-- what is right for all sets T of set below S -/
def Rq (gp : Nat → Nat → Int) (set S : Nat) (μ : zMu) : Prop := ∀ T f, T < S → sub T set → T.testBit f = true → μ 55 (8 * T + f) = zi (rG gp T f).1 ∧ μ 56 (8 * T + f) = zi (rG gp T f).2
theorem sub_sdf {S set m : Nat} (h : sub S set) : sub (sdf S m) set := fun i hi => by
  rw [sdf_bit] at hi
  exact h i (by cases q : S.testBit i with | true => rfl | false => rw [q] at hi; cases hi)
theorem arr_one (d len n : Nat) (μ : zMu) (ν : zNu) (set S f : Nat) (L R : Nat → Int) (v3 v4 v5 : Value) (hn : n ≤ 8) (hc : μ 51 0 = zi (n : Int)) (hset : set < 2 ^ n) (hS : sub S set) (hf : f < n) (hb : S.testBit f = true) (hL : ∀ i, μ 53 i = zi (L i) ∧ -9 ≤ L i ∧ L i ≤ 9) (hR : ∀ i, μ 54 i = zi (R i) ∧ -9 ≤ R i ∧ R i ≤ 9) (hq : Rq (gpF (μ 52) L R) set S μ) : ∃ v3' v4' v5' : Value, zE zc_X3_arrange (zF zT0 (d + 1)) 2 [.ref 51, .int (zi (S : Int)), .int (zi (f : Int)), v3, v4, v5] [] (zm len μ ν) = zE zc_X3_arrange (zF zT0 (d + 1)) 2 [.ref 51, .int (zi (S : Int)), .int (zi ((f + 1 : Nat) : Int)), v3', v4', v5'] [] (zm len (MM μ (8 * S + f) (rG (gpF (μ 52) L R) S f)) ν) := by
  have hp : 2 ^ n ≤ 2 ^ 8 := Nat.pow_le_pow_right (by decide) hn
  have S8 : S < 256 := Nat.lt_of_lt_of_le (lt_of_sub hS hset) hp
  have rl := sdf_lt hb
  obtain ⟨r, hr⟩ : ∃ r, r = sdf S (2 ^ f) := ⟨_, rfl⟩
  have hrs : sub r set := by rw [hr]; exact sub_sdf hS
  have hrn : r < 2 ^ n := lt_of_sub hrs hset
  obtain ⟨k0, hk0⟩ : ∃ k0, k0 = 8 * S + f := ⟨_, rfl⟩
  have ix2 : (S : Int) * 8 + (f : Int) = (k0 : Int) := by omega
  rw [← hk0]
  obtain ⟨gp, hgp⟩ : ∃ gp, gp = gpF (μ 52) L R := ⟨_, rfl⟩
  have gb : ∀ f g, 0 ≤ gp f g ∧ gp f g ≤ 105 := fun f g => by rw [hgp]; exact gpF_b (fun i => (hL i).2) (fun i => (hR i).2) f g
  rw [← hgp] at hq ⊢
  rw [← hr] at rl
  obtain ⟨A, hA⟩ : ∃ A : Int × Int, A = if r = 0 then (0, 1) else (2147483647, 0) := ⟨_, rfl⟩
  obtain ⟨v, hv⟩ : ∃ v : Nat → Int, v = fun g => gp f g + (rG gp r g).1 := ⟨_, rfl⟩
  obtain ⟨w, hw⟩ : ∃ w : Nat → Int, w = fun g => (rG gp r g).2 := ⟨_, rfl⟩
  have rb : ∀ g, 0 ≤ (rG gp r g).1 ∧ (rG gp r g).1 ≤ 105 * (r : Int) := fun g => rG_b gb r r g (Nat.le_refl r) (by omega)
  have vb : ∀ g, 0 ≤ v g ∧ v g ≤ 1000 * 105 := fun g => by
    have h1 := gb f g
    have h2 := rb g
    rw [hv]
    show 0 ≤ gp f g + (rG gp r g).1 ∧ gp f g + (rG gp r g).1 ≤ 1000 * 105
    omega
  have fb : ∀ k, -1000000 ≤ (fld (fun g => r.testBit g) v w A k).1 ∧ (fld (fun g => r.testBit g) v w A k).1 ≤ 2147483647 := by
    intro k
    induction k with
    | zero =>
      show -1000000 ≤ A.1 ∧ A.1 ≤ 2147483647
      rw [hA]
      split
      · exact ⟨by show (-1000000 : Int) ≤ 0; omega, by show (0 : Int) ≤ 2147483647; omega⟩
      · exact ⟨by show (-1000000 : Int) ≤ 2147483647; omega, Int.le_refl _⟩
    | succ k ih =>
      have := vb k
      rw [fld_S]
      split
      · split
        · exact ⟨by show -1000000 ≤ v k; omega, by show v k ≤ 2147483647; omega⟩
        · split
          · exact ih
          · exact ih
      · exact ih
  have K := zloop (f := fun g => zE zc_X3_arrange (zF zT0 (d + 1)) 67 [.ref 51, .int (zi (S : Int)), .int (zi (f : Int)), .int (zi (r : Int)), .int (zi (k0 : Int)), .int (zi (g : Int))] [] (zm len (MM μ k0 (fld (fun g => r.testBit g) v w A g)) ν)) (n := n) (fun g hg => by
    have c0 : MM μ k0 (fld (fun g => r.testBit g) v w A g) 51 0 = zi (n : Int) := by rw [MM_n _ _ _ (by decide) (by decide)]; exact hc
    show zE _ _ _ _ _ _ = zE _ _ _ _ _ _
    rw [B_X3_arrange_67]
    cases q : r.testBit g with
    | false =>
      rw [fld_f (b := fun g => r.testBit g) q]
      simp (disch := omega) only [c0, zb_bit, q, Bool.false_eq_true, B_X3_arrange_123, zbi_some, zbl_some, zbv_some, zbi_none, zbl_none, zbv_none, zbi_ite, zbl_ite, zbv_ite, zbZ, zbO, zc_lt, zc_le, zc_ge, zc_gt, zc_eq, zk0, zk1, zk2, zk3, zk4, zk5, zk6, zk7, zk8, zk9, zk10, zk11, zk12, zk14, zk15, zk16, zk17, zk19, zk20, zk21, zk24, zk25, zk30, zk32, zk36, zk40, zk45, zk50, zk64, zk97, zk99, zk100, zk102, zk122, zk128, zk255, zk800, zk801, zk900, zk999, zk1000, zk1997, zk9999, zk10000, zk100000, zk99999, zk9999999, zk999999999, zk2147483647, zlc0, zlc1, zlc2, zlc3, zlc4, zlc23, zlc99, zlc100, zlc9999999, zlc999999999999, zlc1073741824, zi_neg, zi_add, zi_sub, zi_mul, zl_neg, zl_add, zl_sub, zl_mul, zi_toInt, zi_nat, zi_le, zi_lt, zi_eq, zl_le, zl_lt, zl_eq, zl_toInt, zl_of32, zi_of64, zi_div, zl_div, zmodI, ↓reduceIte, zTle, zFle, zTlt, zFlt, zTeq, zFeq, if_true, if_false, and_self, and_true, true_and, and_false, false_and, or_self, or_true, true_or, or_false, false_or, not_true_eq_false, not_false_eq_true, zcastA, zcastL, znatC, zab, Int.reduceAdd, Int.reduceSub, Int.reduceMul, Int.reduceNeg, Int.reduceToNat, Nat.reduceAdd]
    | true =>
      have G := F_gapC d len (MM μ k0 (fld (fun g => r.testBit g) v w A g)) ν f g L R (by omega) (by omega) (fun i => by rw [MM_n _ _ _ (by decide) (by decide)]; exact hL i) (fun i => by rw [MM_n _ _ _ (by decide) (by decide)]; exact hR i)
      rw [MM_n _ _ _ (by decide) (by decide), ← hgp] at G
      have jx : ((r : Int) * 8 + (g : Int)).toNat = 8 * r + g := by omega
      have h5 : MM μ k0 (fld (fun g => r.testBit g) v w A g) 55 (8 * r + g) = zi (rG gp r g).1 := by rw [MM_55, upd_ne _ _ (by omega)]; exact (hq r g rl hrs q).1
      have h6 : MM μ k0 (fld (fun g => r.testBit g) v w A g) 56 (8 * r + g) = zi (rG gp r g).2 := by rw [MM_56, upd_ne _ _ (by omega)]; exact (hq r g rl hrs q).2
      have ev : gp f g + (rG gp r g).1 = v g := by rw [hv]
      have ew : (rG gp r g).2 = w g := by rw [hw]
      have b1 := gb f g
      have b2 := rb g
      have b3 := vb g
      have O := F_offer d len μ ν k0 (fld (fun g => r.testBit g) v w A g) (v g) (w g) (by omega) (by omega) (fb g)
      rw [fld_S, if_pos q]
      simp (disch := omega) only [c0, zb_bit, q, G, B_X3_arrange_95, jx, h5, h6, ev, ew, O, B_X3_arrange_123, zbi_some, zbl_some, zbv_some, zbi_none, zbl_none, zbv_none, zbi_ite, zbl_ite, zbv_ite, zbZ, zbO, zc_lt, zc_le, zc_ge, zc_gt, zc_eq, zk0, zk1, zk2, zk3, zk4, zk5, zk6, zk7, zk8, zk9, zk10, zk11, zk12, zk14, zk15, zk16, zk17, zk19, zk20, zk21, zk24, zk25, zk30, zk32, zk36, zk40, zk45, zk50, zk64, zk97, zk99, zk100, zk102, zk122, zk128, zk255, zk800, zk801, zk900, zk999, zk1000, zk1997, zk9999, zk10000, zk100000, zk99999, zk9999999, zk999999999, zk2147483647, zlc0, zlc1, zlc2, zlc3, zlc4, zlc23, zlc99, zlc100, zlc9999999, zlc999999999999, zlc1073741824, zi_neg, zi_add, zi_sub, zi_mul, zl_neg, zl_add, zl_sub, zl_mul, zi_toInt, zi_nat, zi_le, zi_lt, zi_eq, zl_le, zl_lt, zl_eq, zl_toInt, zl_of32, zi_of64, zi_div, zl_div, zmodI, ↓reduceIte, zTle, zFle, zTlt, zFlt, zTeq, zFeq, if_true, if_false, and_self, and_true, true_and, and_false, false_and, or_self, or_true, true_or, or_false, false_or, not_true_eq_false, not_false_eq_true, zcastA, zcastL, znatC, zab, Int.reduceAdd, Int.reduceSub, Int.reduceMul, Int.reduceNeg, Int.reduceToNat, Nat.reduceAdd])
  have E : fld (fun g => r.testBit g) v w A n = rG gp S f := by
    by_cases q : r = 0
    · have f0 : fld (fun g => r.testBit g) v w A (0 + n) = fld (fun g => r.testBit g) v w A 0 := fld_hi (fun k _ _ => by show r.testBit k = false; rw [q, Nat.zero_testBit])
      rw [Nat.zero_add] at f0
      rw [f0, rG_0 gp hb (by rw [← hr]; exact q), hA, if_pos q]
      rfl
    · have f8 : fld (fun g => r.testBit g) v w A (n + (8 - n)) = fld (fun g => r.testBit g) v w A n := fld_hi (fun k hk _ => bit_hi hrn hk)
      rw [show n + (8 - n) = 8 by omega, hA, if_neg q] at f8
      rw [hA, if_neg q, ← f8, rG_S gp hb (by rw [← hr]; exact q), ← hr, ← hv, ← hw]
      rcases fld_init (b := fun g => r.testBit g) (v := v) (w := w) (A := 2147483647) (B := 1000000) (n := 8) (fun k _ _ => by have := vb k; omega) with ⟨m1, _⟩ | m2
      · obtain ⟨i, hi⟩ := nz_bit q
        rw [m1 i (bit8 (by omega) hi)] at hi
        cases hi
      · exact m2
  rw [E] at K
  have K0 : zE zc_X3_arrange (zF zT0 (d + 1)) 67 [.ref 51, .int (zi (S : Int)), .int (zi (f : Int)), .int (zi (r : Int)), .int (zi (k0 : Int)), .int (zi 0)] [] (zm len (MM μ k0 A) ν) = zE zc_X3_arrange (zF zT0 (d + 1)) 67 [.ref 51, .int (zi (S : Int)), .int (zi (f : Int)), .int (zi (r : Int)), .int (zi (k0 : Int)), .int (zi (n : Int))] [] (zm len (MM μ k0 (rG gp S f)) ν) := K
  have c1 : MM μ k0 (rG gp S f) 51 0 = zi (n : Int) := by rw [MM_n _ _ _ (by decide) (by decide)]; exact hc
  refine ⟨.int (zi (r : Int)), .int (zi (k0 : Int)), .int (zi (n : Int)), ?_⟩
  have fin : zE zc_X3_arrange (zF zT0 (d + 1)) 67 [.ref 51, .int (zi (S : Int)), .int (zi (f : Int)), .int (zi (r : Int)), .int (zi (k0 : Int)), .int (zi (n : Int))] [] (zm len (MM μ k0 (rG gp S f)) ν) = zE zc_X3_arrange (zF zT0 (d + 1)) 2 [.ref 51, .int (zi (S : Int)), .int (zi ((f + 1 : Nat) : Int)), .int (zi (r : Int)), .int (zi (k0 : Int)), .int (zi (n : Int))] [] (zm len (MM μ k0 (rG gp S f)) ν) := by
    rw [B_X3_arrange_67]
    simp (disch := omega) only [c1, B_X3_arrange_129, zbi_some, zbl_some, zbv_some, zbi_none, zbl_none, zbv_none, zbi_ite, zbl_ite, zbv_ite, zbZ, zbO, zc_lt, zc_le, zc_ge, zc_gt, zc_eq, zk0, zk1, zk2, zk3, zk4, zk5, zk6, zk7, zk8, zk9, zk10, zk11, zk12, zk14, zk15, zk16, zk17, zk19, zk20, zk21, zk24, zk25, zk30, zk32, zk36, zk40, zk45, zk50, zk64, zk97, zk99, zk100, zk102, zk122, zk128, zk255, zk800, zk801, zk900, zk999, zk1000, zk1997, zk9999, zk10000, zk100000, zk99999, zk9999999, zk999999999, zk2147483647, zlc0, zlc1, zlc2, zlc3, zlc4, zlc23, zlc99, zlc100, zlc9999999, zlc999999999999, zlc1073741824, zi_neg, zi_add, zi_sub, zi_mul, zl_neg, zl_add, zl_sub, zl_mul, zi_toInt, zi_nat, zi_le, zi_lt, zi_eq, zl_le, zl_lt, zl_eq, zl_toInt, zl_of32, zi_of64, zi_div, zl_div, zmodI, ↓reduceIte, zTle, zFle, zTlt, zFlt, zTeq, zFeq, if_true, if_false, and_self, and_true, true_and, and_false, false_and, or_self, or_true, true_or, or_false, false_or, not_true_eq_false, not_false_eq_true, zcastA, zcastL, znatC, zab, Int.reduceAdd, Int.reduceSub, Int.reduceMul, Int.reduceNeg, Int.reduceToNat, Nat.reduceAdd]
  rw [B_X3_arrange_2, ← fin, ← K0]
  by_cases q : r = 0
  · rw [if_pos q] at hA
    rw [hA]
    have q2 : ((r : Nat) : Int) = 0 := by omega
    simp (disch := omega) only [hc, zb_shl, zb_not, ← hr, ix2, B_X3_arrange_47, B_X3_arrange_63, MM_0, zbi_some, zbl_some, zbv_some, zbi_none, zbl_none, zbv_none, zbi_ite, zbl_ite, zbv_ite, zbZ, zbO, zc_lt, zc_le, zc_ge, zc_gt, zc_eq, zk0, zk1, zk2, zk3, zk4, zk5, zk6, zk7, zk8, zk9, zk10, zk11, zk12, zk14, zk15, zk16, zk17, zk19, zk20, zk21, zk24, zk25, zk30, zk32, zk36, zk40, zk45, zk50, zk64, zk97, zk99, zk100, zk102, zk122, zk128, zk255, zk800, zk801, zk900, zk999, zk1000, zk1997, zk9999, zk10000, zk100000, zk99999, zk9999999, zk999999999, zk2147483647, zlc0, zlc1, zlc2, zlc3, zlc4, zlc23, zlc99, zlc100, zlc9999999, zlc999999999999, zlc1073741824, zi_neg, zi_add, zi_sub, zi_mul, zl_neg, zl_add, zl_sub, zl_mul, zi_toInt, zi_nat, zi_le, zi_lt, zi_eq, zl_le, zl_lt, zl_eq, zl_toInt, zl_of32, zi_of64, zi_div, zl_div, zmodI, ↓reduceIte, zTle, zFle, zTlt, zFlt, zTeq, zFeq, if_true, if_false, and_self, and_true, true_and, and_false, false_and, or_self, or_true, true_or, or_false, false_or, not_true_eq_false, not_false_eq_true, zcastA, zcastL, znatC, zab, Int.reduceAdd, Int.reduceSub, Int.reduceMul, Int.reduceNeg, Int.reduceToNat, Nat.reduceAdd]
  · rw [if_neg q] at hA
    rw [hA]
    simp (disch := omega) only [hc, zb_shl, zb_not, ← hr, ix2, B_X3_arrange_47, B_X3_arrange_63, MM_0, zbi_some, zbl_some, zbv_some, zbi_none, zbl_none, zbv_none, zbi_ite, zbl_ite, zbv_ite, zbZ, zbO, zc_lt, zc_le, zc_ge, zc_gt, zc_eq, zk0, zk1, zk2, zk3, zk4, zk5, zk6, zk7, zk8, zk9, zk10, zk11, zk12, zk14, zk15, zk16, zk17, zk19, zk20, zk21, zk24, zk25, zk30, zk32, zk36, zk40, zk45, zk50, zk64, zk97, zk99, zk100, zk102, zk122, zk128, zk255, zk800, zk801, zk900, zk999, zk1000, zk1997, zk9999, zk10000, zk100000, zk99999, zk9999999, zk999999999, zk2147483647, zlc0, zlc1, zlc2, zlc3, zlc4, zlc23, zlc99, zlc100, zlc9999999, zlc999999999999, zlc1073741824, zi_neg, zi_add, zi_sub, zi_mul, zl_neg, zl_add, zl_sub, zl_mul, zi_toInt, zi_nat, zi_le, zi_lt, zi_eq, zl_le, zl_lt, zl_eq, zl_toInt, zl_of32, zi_of64, zi_div, zl_div, zmodI, ↓reduceIte, zTle, zFle, zTlt, zFlt, zTeq, zFeq, if_true, if_false, and_self, and_true, true_and, and_false, false_and, or_self, or_true, true_or, or_false, false_or, not_true_eq_false, not_false_eq_true, zcastA, zcastL, znatC, zab, Int.reduceAdd, Int.reduceSub, Int.reduceMul, Int.reduceNeg, Int.reduceToNat, Nat.reduceAdd]

/-! RULES: what is asked of a person, the model's and the class's -/
theorem F_takes (d len : Nat) (μ : zMu) (ν : zNu) (p n : Nat) (mo : Int) (hp : p < n ∧ n ≤ 32) (e62 : μ 92 62 = zi (n : Int)) : ∃ q : Nat → Int32, zF zT0 (d + 1) 264 [.ref 92, .int (zi (p : Int)), .int (zi mo)] (zm len μ ν) = some (.null, zm len (zrw μ 146 q) ν) ∧ q 0 = μ 134 p ∧ q 1 = μ 135 p ∧ q 2 = μ 137 p ∧ q 3 = zi (zcnt (μ 136) (zi (p : Int)) n : Int) ∧ q 4 = zi mo := by
  obtain ⟨q0, hq0⟩ : ∃ q0 : Nat → Int32, q0 = upd (upd (upd (upd (μ 146) 0 (μ 134 p)) 1 (μ 135 p)) 2 (μ 137 p)) 3 (zi 0) := ⟨_, rfl⟩
  have L := zloop (f := fun j => zE zc_X12_takesAsked (zF zT0 d) 45 [.ref 92, .int (zi (p : Int)), .int (zi mo), .int (zi (j : Int))] [] (zm len (zrw μ 146 (upd q0 3 (zi (zcnt (μ 136) (zi (p : Int)) j : Int)))) ν)) (n := n) (fun j hj => by
    show zE _ _ _ _ _ _ = zE _ _ _ _ _ _
    have e3 : upd q0 3 (zi (zcnt (μ 136) (zi (p : Int)) j : Int)) 3 = zi (zcnt (μ 136) (zi (p : Int)) j : Int) := upd_eq _ _ _
    rw [B_X12_takesAsked_45]
    by_cases z : μ 136 j = zi (p : Int)
    · have c : ((zcnt (μ 136) (zi (p : Int)) (j + 1) : Nat) : Int) = (zcnt (μ 136) (zi (p : Int)) j : Int) + 1 := by
        show ((zcnt (μ 136) (zi (p : Int)) j + if μ 136 j = zi (p : Int) then 1 else 0 : Nat) : Int) = _
        rw [if_pos z]
        rfl
      rw [c]
      simp (disch := omega) only [zrw_s, zrw_n, e62, z, e3, B_X12_takesAsked_77, zup_zrw, upd_upd, zbi_some, zbl_some, zbv_some, zbi_none, zbl_none, zbv_none, zbi_ite, zbl_ite, zbv_ite, zbZ, zbO, zc_lt, zc_le, zc_ge, zc_gt, zc_eq, zk0, zk1, zk2, zk3, zk4, zk5, zk6, zk7, zk8, zk9, zk10, zk11, zk12, zk14, zk15, zk16, zk17, zk19, zk20, zk21, zk24, zk25, zk30, zk32, zk36, zk40, zk45, zk50, zk64, zk97, zk99, zk100, zk102, zk122, zk128, zk255, zk800, zk801, zk900, zk999, zk1000, zk1997, zk9999, zk10000, zk100000, zk99999, zk9999999, zk999999999, zk2147483647, zlc0, zlc1, zlc2, zlc3, zlc4, zlc23, zlc99, zlc100, zlc9999999, zlc999999999999, zlc1073741824, zi_neg, zi_add, zi_sub, zi_mul, zl_neg, zl_add, zl_sub, zl_mul, zi_toInt, zi_nat, zi_le, zi_lt, zi_eq, zl_le, zl_lt, zl_eq, zl_toInt, zl_of32, zi_of64, zi_div, zl_div, zmodI, ↓reduceIte, zTle, zFle, zTlt, zFlt, zTeq, zFeq, if_true, if_false, and_self, and_true, true_and, and_false, false_and, or_self, or_true, true_or, or_false, false_or, not_true_eq_false, not_false_eq_true, zcastA, zcastL, znatC, zab, Int.reduceAdd, Int.reduceSub, Int.reduceMul, Int.reduceNeg, Int.reduceToNat, Nat.reduceAdd]
    · have c : ((zcnt (μ 136) (zi (p : Int)) (j + 1) : Nat) : Int) = (zcnt (μ 136) (zi (p : Int)) j : Int) := by
        show ((zcnt (μ 136) (zi (p : Int)) j + if μ 136 j = zi (p : Int) then 1 else 0 : Nat) : Int) = _
        rw [if_neg z]
        rfl
      rw [c]
      simp (disch := omega) only [zrw_s, zrw_n, e62, z, B_X12_takesAsked_77, zbi_some, zbl_some, zbv_some, zbi_none, zbl_none, zbv_none, zbi_ite, zbl_ite, zbv_ite, zbZ, zbO, zc_lt, zc_le, zc_ge, zc_gt, zc_eq, zk0, zk1, zk2, zk3, zk4, zk5, zk6, zk7, zk8, zk9, zk10, zk11, zk12, zk14, zk15, zk16, zk17, zk19, zk20, zk21, zk24, zk25, zk30, zk32, zk36, zk40, zk45, zk50, zk64, zk97, zk99, zk100, zk102, zk122, zk128, zk255, zk800, zk801, zk900, zk999, zk1000, zk1997, zk9999, zk10000, zk100000, zk99999, zk9999999, zk999999999, zk2147483647, zlc0, zlc1, zlc2, zlc3, zlc4, zlc23, zlc99, zlc100, zlc9999999, zlc999999999999, zlc1073741824, zi_neg, zi_add, zi_sub, zi_mul, zl_neg, zl_add, zl_sub, zl_mul, zi_toInt, zi_nat, zi_le, zi_lt, zi_eq, zl_le, zl_lt, zl_eq, zl_toInt, zl_of32, zi_of64, zi_div, zl_div, zmodI, ↓reduceIte, zTle, zFle, zTlt, zFlt, zTeq, zFeq, if_true, if_false, and_self, and_true, true_and, and_false, false_and, or_self, or_true, true_or, or_false, false_or, not_true_eq_false, not_false_eq_true, zcastA, zcastL, znatC, zab, Int.reduceAdd, Int.reduceSub, Int.reduceMul, Int.reduceNeg, Int.reduceToNat, Nat.reduceAdd])
  refine ⟨upd (upd q0 3 (zi (zcnt (μ 136) (zi (p : Int)) n : Int))) 4 (zi mo), ?_, ?_, ?_, ?_, ?_, ?_⟩
  · rw [B_X12_takesAsked]
    have s0 : upd q0 3 (zi ((zcnt (μ 136) (zi (p : Int)) 0 : Nat) : Int)) = q0 := by
      show upd q0 3 (zi 0) = q0
      rw [hq0, upd_upd]
    have L0 : zE zc_X12_takesAsked (zF zT0 d) 45 [.ref 92, .int (zi (p : Int)), .int (zi mo), .int (zi 0)] [] (zm len (zrw μ 146 q0) ν) = some (.null, zm len (zrw μ 146 (upd (upd q0 3 (zi (zcnt (μ 136) (zi (p : Int)) n : Int))) 4 (zi mo))) ν) := by
      have L1 := L
      simp only [s0] at L1
      refine Eq.trans L1 ?_
      rw [B_X12_takesAsked_45]
      simp (disch := omega) only [zrw_s, zrw_n, e62, zup_zrw, zbi_some, zbl_some, zbv_some, zbi_none, zbl_none, zbv_none, zbi_ite, zbl_ite, zbv_ite, zbZ, zbO, zc_lt, zc_le, zc_ge, zc_gt, zc_eq, zk0, zk1, zk2, zk3, zk4, zk5, zk6, zk7, zk8, zk9, zk10, zk11, zk12, zk14, zk15, zk16, zk17, zk19, zk20, zk21, zk24, zk25, zk30, zk32, zk36, zk40, zk45, zk50, zk64, zk97, zk99, zk100, zk102, zk122, zk128, zk255, zk800, zk801, zk900, zk999, zk1000, zk1997, zk9999, zk10000, zk100000, zk99999, zk9999999, zk999999999, zk2147483647, zlc0, zlc1, zlc2, zlc3, zlc4, zlc23, zlc99, zlc100, zlc9999999, zlc999999999999, zlc1073741824, zi_neg, zi_add, zi_sub, zi_mul, zl_neg, zl_add, zl_sub, zl_mul, zi_toInt, zi_nat, zi_le, zi_lt, zi_eq, zl_le, zl_lt, zl_eq, zl_toInt, zl_of32, zi_of64, zi_div, zl_div, zmodI, ↓reduceIte, zTle, zFle, zTlt, zFlt, zTeq, zFeq, if_true, if_false, and_self, and_true, true_and, and_false, false_and, or_self, or_true, true_or, or_false, false_or, not_true_eq_false, not_false_eq_true, zcastA, zcastL, znatC, zab, Int.reduceAdd, Int.reduceSub, Int.reduceMul, Int.reduceNeg, Int.reduceToNat, Nat.reduceAdd]
    rw [hq0] at L0
    simp (disch := omega) only [zup_rw, zrw_s, zrw_n, zrw_zrw, zbi_some, zbl_some, zbv_some, zbi_none, zbl_none, zbv_none, zbi_ite, zbl_ite, zbv_ite, zbZ, zbO, zc_lt, zc_le, zc_ge, zc_gt, zc_eq, zk0, zk1, zk2, zk3, zk4, zk5, zk6, zk7, zk8, zk9, zk10, zk11, zk12, zk14, zk15, zk16, zk17, zk19, zk20, zk21, zk24, zk25, zk30, zk32, zk36, zk40, zk45, zk50, zk64, zk97, zk99, zk100, zk102, zk122, zk128, zk255, zk800, zk801, zk900, zk999, zk1000, zk1997, zk9999, zk10000, zk100000, zk99999, zk9999999, zk999999999, zk2147483647, zlc0, zlc1, zlc2, zlc3, zlc4, zlc23, zlc99, zlc100, zlc9999999, zlc999999999999, zlc1073741824, zi_neg, zi_add, zi_sub, zi_mul, zl_neg, zl_add, zl_sub, zl_mul, zi_toInt, zi_nat, zi_le, zi_lt, zi_eq, zl_le, zl_lt, zl_eq, zl_toInt, zl_of32, zi_of64, zi_div, zl_div, zmodI, ↓reduceIte, zTle, zFle, zTlt, zFlt, zTeq, zFeq, if_true, if_false, and_self, and_true, true_and, and_false, false_and, or_self, or_true, true_or, or_false, false_or, not_true_eq_false, not_false_eq_true, zcastA, zcastL, znatC, zab, Int.reduceAdd, Int.reduceSub, Int.reduceMul, Int.reduceNeg, Int.reduceToNat, Nat.reduceAdd]
    rw [hq0]
    exact L0
  · rw [hq0]; rfl
  · rw [hq0]; rfl
  · rw [hq0]; rfl
  · rfl
  · rfl
theorem F_learn (d len : Nat) (μ : zMu) (ν : zNu) (p : Nat) (mo : Int) (hp : p < 32) : ∃ q : Nat → Int32, zF zT0 (d + 1) 82 [.ref 67, .int (zi (p : Int)), .int (zi mo)] (zm len μ ν) = some (.null, zm len (zrw μ 73 q) ν) ∧ q 0 = μ 68 p ∧ q 1 = μ 69 p ∧ q 2 = μ 70 p ∧ q 3 = μ 71 p ∧ q 4 = zi mo := by
  refine ⟨upd (upd (upd (upd (upd (μ 73) 0 (μ 68 p)) 1 (μ 69 p)) 2 (μ 70 p)) 3 (μ 71 p)) 4 (zi mo), ?_, rfl, rfl, rfl, rfl, rfl⟩
  rw [B_X6_learnFacts]
  simp (disch := omega) only [zup_rw, zrw_s, zrw_n, zrw_zrw, zbi_some, zbl_some, zbv_some, zbi_none, zbl_none, zbv_none, zbi_ite, zbl_ite, zbv_ite, zbZ, zbO, zc_lt, zc_le, zc_ge, zc_gt, zc_eq, zk0, zk1, zk2, zk3, zk4, zk5, zk6, zk7, zk8, zk9, zk10, zk11, zk12, zk14, zk15, zk16, zk17, zk19, zk20, zk21, zk24, zk25, zk30, zk32, zk36, zk40, zk45, zk50, zk64, zk97, zk99, zk100, zk102, zk122, zk128, zk255, zk800, zk801, zk900, zk999, zk1000, zk1997, zk9999, zk10000, zk100000, zk99999, zk9999999, zk999999999, zk2147483647, zlc0, zlc1, zlc2, zlc3, zlc4, zlc23, zlc99, zlc100, zlc9999999, zlc999999999999, zlc1073741824, zi_neg, zi_add, zi_sub, zi_mul, zl_neg, zl_add, zl_sub, zl_mul, zi_toInt, zi_nat, zi_le, zi_lt, zi_eq, zl_le, zl_lt, zl_eq, zl_toInt, zl_of32, zi_of64, zi_div, zl_div, zmodI, ↓reduceIte, zTle, zFle, zTlt, zFlt, zTeq, zFeq, if_true, if_false, and_self, and_true, true_and, and_false, false_and, or_self, or_true, true_or, or_false, false_or, not_true_eq_false, not_false_eq_true, zcastA, zcastL, znatC, zab, Int.reduceAdd, Int.reduceSub, Int.reduceMul, Int.reduceNeg, Int.reduceToNat, Nat.reduceAdd]

/-! TABLET: a closed BLOCK's fills, the model's beginning -/
section CF
variable {ln : Nat → Ln} {Q : Nat → Nat} {N o m b : Nat}
theorem F_mst (d len : Nat) {Y : zMu} {ν : zNu} {ms : List (Nat × Int × Int)} {lq : Int} (hms : ms.length ≤ 2) (hT : TU Q N ms lq Y ν) {k : Nat} (hk : k < 3) : zF zT0 (d + 1) 213 [.ref 92, .int (zi (k : Int))] (zm len Y ν) = some (.int (zi (mW ms k)), zm len Y ν) := by
  obtain ⟨e35, _, tm⟩ := hT
  obtain ⟨ml, hml⟩ : ∃ ml, ml = ms.length := ⟨_, rfl⟩
  rw [B_X12_mostOf]
  by_cases z : k < ms.length
  · obtain ⟨q, hq⟩ : ∃ q, ms[k]? = some q := ⟨ms[k]'z, List.getElem?_eq_getElem z⟩
    obtain ⟨_, _, p5⟩ := tm k q hq
    rw [(mL_some hq).2.2]
    rw [← hml] at e35 z hms
    simp (disch := omega) only [e35, p5, zbi_some, zbl_some, zbv_some, zbi_none, zbl_none, zbv_none, zbi_ite, zbl_ite, zbv_ite, zbZ, zbO, zc_lt, zc_le, zc_ge, zc_gt, zc_eq, zk0, zk1, zk2, zk3, zk4, zk5, zk6, zk7, zk8, zk9, zk10, zk11, zk12, zk14, zk15, zk16, zk17, zk19, zk20, zk21, zk24, zk25, zk30, zk32, zk36, zk40, zk45, zk50, zk64, zk97, zk99, zk100, zk102, zk122, zk128, zk255, zk800, zk801, zk900, zk999, zk1000, zk1997, zk9999, zk10000, zk100000, zk99999, zk9999999, zk999999999, zk2147483647, zlc0, zlc1, zlc2, zlc3, zlc4, zlc23, zlc99, zlc100, zlc9999999, zlc999999999999, zlc1073741824, zi_neg, zi_add, zi_sub, zi_mul, zl_neg, zl_add, zl_sub, zl_mul, zi_toInt, zi_nat, zi_le, zi_lt, zi_eq, zl_le, zl_lt, zl_eq, zl_toInt, zl_of32, zi_of64, zi_div, zl_div, zmodI, ↓reduceIte, zTle, zFle, zTlt, zFlt, zTeq, zFeq, if_true, if_false, and_self, and_true, true_and, and_false, false_and, or_self, or_true, true_or, or_false, false_or, not_true_eq_false, not_false_eq_true, zcastA, zcastL, znatC, zab, Int.reduceAdd, Int.reduceSub, Int.reduceMul, Int.reduceNeg, Int.reduceToNat, Nat.reduceAdd]
  · rw [(mL_none (show ms.length ≤ k by omega)).2.2]
    rw [← hml] at e35 z hms
    simp (disch := omega) only [e35, zbi_some, zbl_some, zbv_some, zbi_none, zbl_none, zbv_none, zbi_ite, zbl_ite, zbv_ite, zbZ, zbO, zc_lt, zc_le, zc_ge, zc_gt, zc_eq, zk0, zk1, zk2, zk3, zk4, zk5, zk6, zk7, zk8, zk9, zk10, zk11, zk12, zk14, zk15, zk16, zk17, zk19, zk20, zk21, zk24, zk25, zk30, zk32, zk36, zk40, zk45, zk50, zk64, zk97, zk99, zk100, zk102, zk122, zk128, zk255, zk800, zk801, zk900, zk999, zk1000, zk1997, zk9999, zk10000, zk100000, zk99999, zk9999999, zk999999999, zk2147483647, zlc0, zlc1, zlc2, zlc3, zlc4, zlc23, zlc99, zlc100, zlc9999999, zlc999999999999, zlc1073741824, zi_neg, zi_add, zi_sub, zi_mul, zl_neg, zl_add, zl_sub, zl_mul, zi_toInt, zi_nat, zi_le, zi_lt, zi_eq, zl_le, zl_lt, zl_eq, zl_toInt, zl_of32, zi_of64, zi_div, zl_div, zmodI, ↓reduceIte, zTle, zFle, zTlt, zFlt, zTeq, zFeq, if_true, if_false, and_self, and_true, true_and, and_false, false_and, or_self, or_true, true_or, or_false, false_or, not_true_eq_false, not_false_eq_true, zcastA, zcastL, znatC, zab, Int.reduceAdd, Int.reduceSub, Int.reduceMul, Int.reduceNeg, Int.reduceToNat, Nat.reduceAdd]
theorem PI_0 (hV : LV ln m) : PI ln m b (0, lo0 ln m b, hi0 ln m b) := by
  refine ⟨Int.le_refl 0, fun j hj _ => ?_⟩
  have v := (hV.1 j hj).2.2.2.1
  show (¬ unK ln m b j → lo0 ln m b j = (ln j).2.2.2.1 ∧ hi0 ln m b j = (ln j).2.2.2.1) ∧ (unK ln m b j → (0 : Int) = 0 → lo0 ln m b j = 2147483647 ∧ hi0 ln m b j = -1) ∧ (-1 ≤ lo0 ln m b j ∧ lo0 ln m b j ≤ 2147483647) ∧ -1 ≤ hi0 ln m b j ∧ hi0 ln m b j ≤ 2147483647
  unfold lo0 hi0
  by_cases hu : unK ln m b j
  · rw [if_pos hu, if_pos hu]
    exact ⟨fun c => absurd hu c, fun _ _ => ⟨rfl, rfl⟩, by omega, by omega⟩
  · rw [if_neg hu, if_neg hu]
    exact ⟨fun _ => ⟨rfl, rfl⟩, fun c => absurd c hu, by omega, by omega⟩
end CF

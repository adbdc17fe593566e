/-! RULES: a reckoning, both -/
theorem reck_loop (d d2 len : Nat) (μ μ' : zMu) (ν ν' : zNu) (fr to : Nat) (hd : Int) (op arg : Nat → Int) (H : Nat → Nat) (T : Nat → Nat → Nat) (hhd : 0 ≤ hd ∧ hd ≤ 1) (hft : fr ≤ 800 ∧ to ≤ 800) (e67 : μ' 92 67 = zi hd) (hq : ∀ j, j < 5 → μ 73 j = μ' 146 j) (hst : ∀ k, fr ≤ k → k < to → μ 58 k = zi (opC (op k) (arg k)) ∧ μ' 143 (800 * hd + (k : Int)).toNat = zi (op k) ∧ μ' 144 (800 * hd + (k : Int)).toNat = zi (arg k) ∧ Tst (op k) (arg k) (H k) (T k) (H (k + 1)) (T (k + 1))) (hH : H to = 1) :
    ∀ m k : Nat, k + m = to → fr ≤ k → ∀ f f' : Nat → Int32, Iv (H k) (T k) f → (∀ i, i < H k → f i = f' i) → ∀ v6 v7 : Value, ∃ (v : Int32) (g g' : Nat → Int32), zE zc_X7_reckon (zF zT0 (d + 2)) 6 [.ref 57, .int (zi (fr : Int)), .int (zi (to : Int)), .ref 73, .int (zi (H k : Int)), .int (zi (k : Int)), v6, v7] [] (zm len (zrw μ 66 f) ν) = some (.int v, zm len (zrw μ 66 g) ν) ∧ zE zc_X12_comesTo (zF zT0 (d2 + 2)) 14 [.ref 92, .int (zi (fr : Int)), .int (zi (to : Int)), .int (zi (H k : Int)), .int (zi (800 * hd + (k : Int)))] [] (zm len (zrw μ' 147 f') ν') = some (.int v, zm len (zrw μ' 147 g') ν') ∧ (T to 0 = 2 → v = zi 0 ∨ v = zi 1) := by
  intro m
  induction m with
  | zero =>
    intro k hk hf f f' iv ag v6 v7
    have : k = to := by omega
    subst this
    have z800 : (800 : Int32) = zi 800 := rfl
    refine ⟨f 0, f, f', ?_, ?_, (iv 0 (by omega)).2⟩
    · rw [B_X7_reckon_6]
      simp (disch := omega) only [zrw_s, zbi_some, zbl_some, zbv_some, zbi_none, zbl_none, zbv_none, zbi_ite, zbl_ite, zbv_ite, zbZ, zbO, zc_lt, zc_le, zc_ge, zc_gt, zc_eq, zk0, zk1, zk2, zk3, zk4, zk5, zk6, zk7, zk8, zk9, zk10, zk11, zk12, zk14, zk15, zk16, zk17, zk19, zk20, zk21, zk24, zk25, zk30, zk32, zk36, zk40, zk45, zk50, zk64, zk97, zk99, zk100, zk102, zk122, zk128, zk255, zk800, zk801, zk900, zk999, zk1000, zk1997, zk9999, zk10000, zk100000, zk99999, zk9999999, zk999999999, zk2147483647, zlc0, zlc1, zlc2, zlc3, zlc4, zlc23, zlc99, zlc100, zlc9999999, zlc999999999999, zlc1073741824, zi_neg, zi_add, zi_sub, zi_mul, zl_neg, zl_add, zl_sub, zl_mul, zi_toInt, zi_nat, zi_le, zi_lt, zi_eq, zl_le, zl_lt, zl_eq, zl_toInt, zl_of32, zi_of64, zi_div, zl_div, zmodI, ↓reduceIte, zTle, zFle, zTlt, zFlt, zTeq, zFeq, if_true, if_false, and_self, and_true, true_and, and_false, false_and, or_self, or_true, true_or, or_false, false_or, not_true_eq_false, not_false_eq_true, zcastA, zcastL, znatC, zab, Int.reduceAdd, Int.reduceSub, Int.reduceMul, Int.reduceNeg, Int.reduceToNat, Nat.reduceAdd]
    · rw [ag 0 (by omega), B_X12_comesTo_14]
      simp (disch := omega) only [z800, zrw_s, zrw_n, e67, zbi_some, zbl_some, zbv_some, zbi_none, zbl_none, zbv_none, zbi_ite, zbl_ite, zbv_ite, zbZ, zbO, zc_lt, zc_le, zc_ge, zc_gt, zc_eq, zk0, zk1, zk2, zk3, zk4, zk5, zk6, zk7, zk8, zk9, zk10, zk11, zk12, zk14, zk15, zk16, zk17, zk19, zk20, zk21, zk24, zk25, zk30, zk32, zk36, zk40, zk45, zk50, zk64, zk97, zk99, zk100, zk102, zk122, zk128, zk255, zk800, zk801, zk900, zk999, zk1000, zk1997, zk9999, zk10000, zk100000, zk99999, zk9999999, zk999999999, zk2147483647, zlc0, zlc1, zlc2, zlc3, zlc4, zlc23, zlc99, zlc100, zlc9999999, zlc999999999999, zlc1073741824, zi_neg, zi_add, zi_sub, zi_mul, zl_neg, zl_add, zl_sub, zl_mul, zi_toInt, zi_nat, zi_le, zi_lt, zi_eq, zl_le, zl_lt, zl_eq, zl_toInt, zl_of32, zi_of64, zi_div, zl_div, zmodI, ↓reduceIte, zTle, zFle, zTlt, zFlt, zTeq, zFeq, if_true, if_false, and_self, and_true, true_and, and_false, false_and, or_self, or_true, true_or, or_false, false_or, not_true_eq_false, not_false_eq_true, zcastA, zcastL, znatC, zab, Int.reduceAdd, Int.reduceSub, Int.reduceMul, Int.reduceNeg, Int.reduceToNat, Nat.reduceAdd]
  | succ m ih =>
    intro k hk hf f f' iv ag v6 v7
    obtain ⟨s1, s2, s3, s4⟩ := hst k hf (by omega)
    have iv' : Iv (H k) (T k) f' := fun i hi => by
      rw [← ag i hi]
      exact iv i hi
    obtain ⟨w6, w7, C⟩ := rk_c d len μ ν fr to k (H k) (H (k + 1)) (T k) (T (k + 1)) (op k) (arg k) f (by omega) (by omega) s1 s4 iv v6 v7
    have M := rk_m d2 len μ' ν' fr to hd k (H k) (H (k + 1)) (T k) (T (k + 1)) (op k) (arg k) f' hhd (by omega) (by omega) e67 s2 s3 s4 iv'
    obtain ⟨v, g, g', p1, p2, p3⟩ := ih (k + 1) (by omega) (by omega) _ _ (Iv_step (q := μ 73) s4 iv) (fS_ag s4 hq ag) w6 w7
    refine ⟨v, g, g', C.trans p1, ?_, p3⟩
    rw [M, show 800 * hd + (k : Int) + 1 = 800 * hd + ((k + 1 : Nat) : Int) by omega]
    exact p2
theorem F_reck (d d2 len : Nat) (μ μ' : zMu) (ν ν' : zNu) (fr to : Nat) (hd : Int) (op arg : Nat → Int) (H : Nat → Nat) (T : Nat → Nat → Nat) (hhd : 0 ≤ hd ∧ hd ≤ 1) (hft : fr ≤ to ∧ to ≤ 800) (e67 : μ' 92 67 = zi hd) (hq : ∀ j, j < 5 → μ 73 j = μ' 146 j) (hst : ∀ k, fr ≤ k → k < to → μ 58 k = zi (opC (op k) (arg k)) ∧ μ' 143 (800 * hd + (k : Int)).toNat = zi (op k) ∧ μ' 144 (800 * hd + (k : Int)).toNat = zi (arg k) ∧ Tst (op k) (arg k) (H k) (T k) (H (k + 1)) (T (k + 1))) (h0 : H fr = 0) (hH : H to = 1) :
    ∃ (v : Int32) (g g' : Nat → Int32), zF zT0 (d + 3) 95 [.ref 57, .int (zi (fr : Int)), .int (zi (to : Int)), .ref 73] (zm len μ ν) = some (.int v, zm len (zrw μ 66 g) ν) ∧ zF zT0 (d2 + 3) 266 [.ref 92, .int (zi (fr : Int)), .int (zi (to : Int))] (zm len μ' ν') = some (.int v, zm len (zrw μ' 147 g') ν') ∧ (T to 0 = 2 → v = zi 0 ∨ v = zi 1) := by
  obtain ⟨v, g, g', p1, p2, p3⟩ := reck_loop d d2 len μ μ' ν ν' fr to hd op arg H T hhd (by omega) e67 hq hst hH (to - fr) fr (by omega) (Nat.le_refl _) (μ 66) (μ' 147) (fun i hi => by omega) (fun i hi => by omega) zU zU
  rw [zrw_id, h0] at p1 p2
  refine ⟨v, g, g', ?_, ?_, p3⟩
  · rw [B_X7_reckon]
    exact p1
  · have z800 : (800 : Int32) = zi 800 := rfl
    rw [B_X12_comesTo]
    simp (disch := omega) only [z800, e67, zbi_some, zbl_some, zbv_some, zbi_none, zbl_none, zbv_none, zbi_ite, zbl_ite, zbv_ite, zbZ, zbO, zc_lt, zc_le, zc_ge, zc_gt, zc_eq, zk0, zk1, zk2, zk3, zk4, zk5, zk6, zk7, zk8, zk9, zk10, zk11, zk12, zk14, zk15, zk16, zk17, zk19, zk20, zk21, zk24, zk25, zk30, zk32, zk36, zk40, zk45, zk50, zk64, zk97, zk99, zk100, zk102, zk122, zk128, zk255, zk800, zk801, zk900, zk999, zk1000, zk1997, zk9999, zk10000, zk100000, zk99999, zk9999999, zk999999999, zk2147483647, zlc0, zlc1, zlc2, zlc3, zlc4, zlc23, zlc99, zlc100, zlc9999999, zlc999999999999, zlc1073741824, zi_neg, zi_add, zi_sub, zi_mul, zl_neg, zl_add, zl_sub, zl_mul, zi_toInt, zi_nat, zi_le, zi_lt, zi_eq, zl_le, zl_lt, zl_eq, zl_toInt, zl_of32, zi_of64, zi_div, zl_div, zmodI, ↓reduceIte, zTle, zFle, zTlt, zFlt, zTeq, zFeq, if_true, if_false, and_self, and_true, true_and, and_false, false_and, or_self, or_true, true_or, or_false, false_or, not_true_eq_false, not_false_eq_true, zcastA, zcastL, znatC, zab, Int.reduceAdd, Int.reduceSub, Int.reduceMul, Int.reduceNeg, Int.reduceToNat, Nat.reduceAdd]
    exact p2

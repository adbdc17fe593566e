/-! ORDERS: the first one, by both sides -/
theorem ff_in (d len n : Nat) (ν : zNu) (U : Nat → Nat) (μ : zMu) (i : Nat) (hR : Rs n U (μ 46)) (hc : μ 45 0 = zi (n : Int)) (hs : gs U n i < 2 ^ n) (x2 : Int32) (k : Nat) (hk : k ≤ n) (hno : ∀ j, j < k → oE U (gs U n i) j = false) (hyes : k = n ∨ oE U (gs U n i) k = true) : zE zc_X8_findFirst (zF zT0 d) 14 [.ref 45, .int (zi (gs U n i : Int)), .int x2, .int (zi 0)] [] (zm len μ ν) = zE zc_X8_findFirst (zF zT0 d) 49 [.ref 45, .int (zi (gs U n i : Int)), .int x2, .int (zi (k : Int))] [] (zm len μ ν) := by
  have hp : 2 ^ n ≤ 2 ^ 10 := Nat.pow_le_pow_right (by decide) hR.1
  have n10 := hR.1
  obtain ⟨g, hg⟩ : ∃ g, g = gs U n i := ⟨_, rfl⟩
  rw [← hg] at hs hno hyes ⊢
  have K := zloop (f := fun j => zE zc_X8_findFirst (zF zT0 d) 14 [.ref 45, .int (zi (g : Int)), .int x2, .int (zi (j : Int))] [] (zm len μ ν)) (n := k) (fun j hj => by
    have no := hno j hj
    have u := hR.2 j
    have u2 := u.2.1
    have le := sdf_le (U j) g
    show zE _ _ _ _ _ _ = zE _ _ _ _ _ _
    rw [B_X8_findFirst_14]
    cases q : g.testBit j with
    | true => simp (disch := omega) only [hc, zb_bit, q, B_X8_findFirst_43, zbi_some, zbl_some, zbv_some, zbi_none, zbl_none, zbv_none, zbi_ite, zbl_ite, zbv_ite, zbZ, zbO, zc_lt, zc_le, zc_ge, zc_gt, zc_eq, zk0, zk1, zk2, zk3, zk4, zk5, zk6, zk7, zk8, zk9, zk10, zk11, zk12, zk14, zk15, zk16, zk17, zk19, zk20, zk21, zk24, zk25, zk30, zk32, zk36, zk40, zk45, zk50, zk64, zk97, zk99, zk100, zk102, zk122, zk128, zk255, zk800, zk801, zk900, zk999, zk1000, zk1997, zk9999, zk10000, zk100000, zk99999, zk9999999, zk999999999, zk2147483647, zlc0, zlc1, zlc2, zlc3, zlc4, zlc23, zlc99, zlc100, zlc9999999, zlc999999999999, zlc1073741824, zi_neg, zi_add, zi_sub, zi_mul, zl_neg, zl_add, zl_sub, zl_mul, zi_toInt, zi_nat, zi_le, zi_lt, zi_eq, zl_le, zl_lt, zl_eq, zl_toInt, zl_of32, zi_of64, zi_div, zl_div, zmodI, ↓reduceIte, zTle, zFle, zTlt, zFlt, zTeq, zFeq, if_true, if_false, and_self, and_true, true_and, and_false, false_and, or_self, or_true, true_or, or_false, false_or, not_true_eq_false, not_false_eq_true, zcastA, zcastL, znatC, zab, Int.reduceAdd, Int.reduceSub, Int.reduceMul, Int.reduceNeg, Int.reduceToNat, Nat.reduceAdd]
    | false =>
      have z : ¬ sdf (U j) g = 0 := fun z => by
        rw [oE_t.mpr ⟨q, sdf_0.mp z⟩] at no
        cases no
      have z' : ¬ ((sdf (U j) g : Nat) : Int) = 0 := by omega
      simp (disch := omega) only [hc, zb_bit, q, Bool.false_eq_true, u.1, zb_not, z', B_X8_findFirst_43, zbi_some, zbl_some, zbv_some, zbi_none, zbl_none, zbv_none, zbi_ite, zbl_ite, zbv_ite, zbZ, zbO, zc_lt, zc_le, zc_ge, zc_gt, zc_eq, zk0, zk1, zk2, zk3, zk4, zk5, zk6, zk7, zk8, zk9, zk10, zk11, zk12, zk14, zk15, zk16, zk17, zk19, zk20, zk21, zk24, zk25, zk30, zk32, zk36, zk40, zk45, zk50, zk64, zk97, zk99, zk100, zk102, zk122, zk128, zk255, zk800, zk801, zk900, zk999, zk1000, zk1997, zk9999, zk10000, zk100000, zk99999, zk9999999, zk999999999, zk2147483647, zlc0, zlc1, zlc2, zlc3, zlc4, zlc23, zlc99, zlc100, zlc9999999, zlc999999999999, zlc1073741824, zi_neg, zi_add, zi_sub, zi_mul, zl_neg, zl_add, zl_sub, zl_mul, zi_toInt, zi_nat, zi_le, zi_lt, zi_eq, zl_le, zl_lt, zl_eq, zl_toInt, zl_of32, zi_of64, zi_div, zl_div, zmodI, ↓reduceIte, zTle, zFle, zTlt, zFlt, zTeq, zFeq, if_true, if_false, and_self, and_true, true_and, and_false, false_and, or_self, or_true, true_or, or_false, false_or, not_true_eq_false, not_false_eq_true, zcastA, zcastL, znatC, zab, Int.reduceAdd, Int.reduceSub, Int.reduceMul, Int.reduceNeg, Int.reduceToNat, Nat.reduceAdd])
  have K0 : zE zc_X8_findFirst (zF zT0 d) 14 [.ref 45, .int (zi (g : Int)), .int x2, .int (zi 0)] [] (zm len μ ν) = zE zc_X8_findFirst (zF zT0 d) 14 [.ref 45, .int (zi (g : Int)), .int x2, .int (zi (k : Int))] [] (zm len μ ν) := K
  rw [K0, B_X8_findFirst_14]
  by_cases q : k = n
  · simp (disch := omega) only [hc, q, zbi_some, zbl_some, zbv_some, zbi_none, zbl_none, zbv_none, zbi_ite, zbl_ite, zbv_ite, zbZ, zbO, zc_lt, zc_le, zc_ge, zc_gt, zc_eq, zk0, zk1, zk2, zk3, zk4, zk5, zk6, zk7, zk8, zk9, zk10, zk11, zk12, zk14, zk15, zk16, zk17, zk19, zk20, zk21, zk24, zk25, zk30, zk32, zk36, zk40, zk45, zk50, zk64, zk97, zk99, zk100, zk102, zk122, zk128, zk255, zk800, zk801, zk900, zk999, zk1000, zk1997, zk9999, zk10000, zk100000, zk99999, zk9999999, zk999999999, zk2147483647, zlc0, zlc1, zlc2, zlc3, zlc4, zlc23, zlc99, zlc100, zlc9999999, zlc999999999999, zlc1073741824, zi_neg, zi_add, zi_sub, zi_mul, zl_neg, zl_add, zl_sub, zl_mul, zi_toInt, zi_nat, zi_le, zi_lt, zi_eq, zl_le, zl_lt, zl_eq, zl_toInt, zl_of32, zi_of64, zi_div, zl_div, zmodI, ↓reduceIte, zTle, zFle, zTlt, zFlt, zTeq, zFeq, if_true, if_false, and_self, and_true, true_and, and_false, false_and, or_self, or_true, true_or, or_false, false_or, not_true_eq_false, not_false_eq_true, zcastA, zcastL, znatC, zab, Int.reduceAdd, Int.reduceSub, Int.reduceMul, Int.reduceNeg, Int.reduceToNat, Nat.reduceAdd]
  · have hy : oE U g k = true := by
      rcases hyes with z | z
      · exact absurd z q
      · exact z
    have u := hR.2 k
    obtain ⟨y1, y2⟩ := oE_t.mp hy
    have z := sdf_0.mpr y2
    simp (disch := omega) only [hc, zb_bit, y1, Bool.false_eq_true, u.1, zb_not, z, zbi_some, zbl_some, zbv_some, zbi_none, zbl_none, zbv_none, zbi_ite, zbl_ite, zbv_ite, zbZ, zbO, zc_lt, zc_le, zc_ge, zc_gt, zc_eq, zk0, zk1, zk2, zk3, zk4, zk5, zk6, zk7, zk8, zk9, zk10, zk11, zk12, zk14, zk15, zk16, zk17, zk19, zk20, zk21, zk24, zk25, zk30, zk32, zk36, zk40, zk45, zk50, zk64, zk97, zk99, zk100, zk102, zk122, zk128, zk255, zk800, zk801, zk900, zk999, zk1000, zk1997, zk9999, zk10000, zk100000, zk99999, zk9999999, zk999999999, zk2147483647, zlc0, zlc1, zlc2, zlc3, zlc4, zlc23, zlc99, zlc100, zlc9999999, zlc999999999999, zlc1073741824, zi_neg, zi_add, zi_sub, zi_mul, zl_neg, zl_add, zl_sub, zl_mul, zi_toInt, zi_nat, zi_le, zi_lt, zi_eq, zl_le, zl_lt, zl_eq, zl_toInt, zl_of32, zi_of64, zi_div, zl_div, zmodI, ↓reduceIte, zTle, zFle, zTlt, zFlt, zTeq, zFeq, if_true, if_false, and_self, and_true, true_and, and_false, false_and, or_self, or_true, true_or, or_false, false_or, not_true_eq_false, not_false_eq_true, zcastA, zcastL, znatC, zab, Int.reduceAdd, Int.reduceSub, Int.reduceMul, Int.reduceNeg, Int.reduceToNat, Nat.reduceAdd]
theorem ff_out (d len n : Nat) (ν : zNu) (U : Nat → Nat) (μ : zMu) (hR : Rs n U (μ 46)) (hc : μ 45 0 = zi (n : Int)) : ∀ (m i : Nat) (μ1 : zMu) (v3 : Value), i + m = n → (∀ r, r ≠ 48 → μ1 r = μ r) → (∀ j, j < i → ∃ p, p < n ∧ oE U (gs U n j) p = true) → (∀ j, j < i → μ1 48 j = zi (gk U n j : Int)) → ∃ (μ' : zMu) (r : Int), zE zc_X8_findFirst (zF zT0 d) 4 [.ref 45, .int (zi (gs U n i : Int)), .int (zi (i : Int)), v3] [] (zm len μ1 ν) = some (.int (zi r), zm len μ' ν) ∧ (∀ q, q ≠ 48 → μ' q = μ q) ∧ (r = 1 ∧ oB U n 0 ≠ 0 ∧ (∀ j, j < n → μ' 48 j = zi (gk U n j : Int)) ∨ r = 0 ∧ oB U n 0 = 0) := by
  have hp : 2 ^ n ≤ 2 ^ 10 := Nat.pow_le_pow_right (by decide) hR.1
  have n10 := hR.1
  intro m
  induction m with
  | zero =>
    intro i μ1 v3 hi e hE hf
    have e0 : i = n := by omega
    subst e0
    have h1 : μ1 45 0 = zi (i : Int) := by rw [e 45 (by decide)]; exact hc
    refine ⟨μ1, 1, ?_, e, Or.inl ⟨rfl, gs_no hE, hf⟩⟩
    rw [B_X8_findFirst_4]
    simp (disch := omega) only [h1, zbi_some, zbl_some, zbv_some, zbi_none, zbl_none, zbv_none, zbi_ite, zbl_ite, zbv_ite, zbZ, zbO, zc_lt, zc_le, zc_ge, zc_gt, zc_eq, zk0, zk1, zk2, zk3, zk4, zk5, zk6, zk7, zk8, zk9, zk10, zk11, zk12, zk14, zk15, zk16, zk17, zk19, zk20, zk21, zk24, zk25, zk30, zk32, zk36, zk40, zk45, zk50, zk64, zk97, zk99, zk100, zk102, zk122, zk128, zk255, zk800, zk801, zk900, zk999, zk1000, zk1997, zk9999, zk10000, zk100000, zk99999, zk9999999, zk999999999, zk2147483647, zlc0, zlc1, zlc2, zlc3, zlc4, zlc23, zlc99, zlc100, zlc9999999, zlc999999999999, zlc1073741824, zi_neg, zi_add, zi_sub, zi_mul, zl_neg, zl_add, zl_sub, zl_mul, zi_toInt, zi_nat, zi_le, zi_lt, zi_eq, zl_le, zl_lt, zl_eq, zl_toInt, zl_of32, zi_of64, zi_div, zl_div, zmodI, ↓reduceIte, zTle, zFle, zTlt, zFlt, zTeq, zFeq, if_true, if_false, and_self, and_true, true_and, and_false, false_and, or_self, or_true, true_or, or_false, false_or, not_true_eq_false, not_false_eq_true, zcastA, zcastL, znatC, zab, Int.reduceAdd, Int.reduceSub, Int.reduceMul, Int.reduceNeg, Int.reduceToNat, Nat.reduceAdd]
  | succ m ih =>
    intro i μ1 v3 hi e hE hf
    have e46 : μ1 46 = μ 46 := e 46 (by decide)
    have h1 : μ1 45 0 = zi (n : Int) := by rw [e 45 (by decide)]; exact hc
    obtain ⟨s1, s2⟩ := gs_lt i hE
    have H : zE zc_X8_findFirst (zF zT0 d) 4 [.ref 45, .int (zi (gs U n i : Int)), .int (zi (i : Int)), v3] [] (zm len μ1 ν) = zE zc_X8_findFirst (zF zT0 d) 14 [.ref 45, .int (zi (gs U n i : Int)), .int (zi (i : Int)), .int (zi 0)] [] (zm len μ1 ν) := by
      rw [B_X8_findFirst_4]
      simp (disch := omega) only [h1, zbi_some, zbl_some, zbv_some, zbi_none, zbl_none, zbv_none, zbi_ite, zbl_ite, zbv_ite, zbZ, zbO, zc_lt, zc_le, zc_ge, zc_gt, zc_eq, zk0, zk1, zk2, zk3, zk4, zk5, zk6, zk7, zk8, zk9, zk10, zk11, zk12, zk14, zk15, zk16, zk17, zk19, zk20, zk21, zk24, zk25, zk30, zk32, zk36, zk40, zk45, zk50, zk64, zk97, zk99, zk100, zk102, zk122, zk128, zk255, zk800, zk801, zk900, zk999, zk1000, zk1997, zk9999, zk10000, zk100000, zk99999, zk9999999, zk999999999, zk2147483647, zlc0, zlc1, zlc2, zlc3, zlc4, zlc23, zlc99, zlc100, zlc9999999, zlc999999999999, zlc1073741824, zi_neg, zi_add, zi_sub, zi_mul, zl_neg, zl_add, zl_sub, zl_mul, zi_toInt, zi_nat, zi_le, zi_lt, zi_eq, zl_le, zl_lt, zl_eq, zl_toInt, zl_of32, zi_of64, zi_div, zl_div, zmodI, ↓reduceIte, zTle, zFle, zTlt, zFlt, zTeq, zFeq, if_true, if_false, and_self, and_true, true_and, and_false, false_and, or_self, or_true, true_or, or_false, false_or, not_true_eq_false, not_false_eq_true, zcastA, zcastL, znatC, zab, Int.reduceAdd, Int.reduceSub, Int.reduceMul, Int.reduceNeg, Int.reduceToNat, Nat.reduceAdd]
    by_cases q : ∃ p, p < n ∧ oE U (gs U n i) p = true
    · obtain ⟨b1, b2, b3, b4, b5, b6⟩ := gs_1 s1 q
      have I := ff_in d len n ν U μ1 i (by rw [e46]; exact hR) h1 s1 (zi (i : Int)) (gk U n i) (by omega) b3 (Or.inr b2)
      obtain ⟨μ', r, a, b, c⟩ := ih (i + 1) (zup μ1 48 i (zi (gk U n i : Int))) (.int (zi (gk U n i : Int))) (by omega) (fun r h => by rw [zup_ne _ _ _ h]; exact e r h) (fun j hj => by
        by_cases z : j = i
        · rw [z]
          exact q
        · exact hE j (by omega)) (fun j hj => by
        rw [zup_self]
        by_cases z : j = i
        · rw [z, upd_eq]
        · rw [upd_ne _ _ z]
          exact hf j (by omega))
      refine ⟨μ', r, ?_, b, c⟩
      rw [← a, H, I, B_X8_findFirst_49]
      rw [b4]
      simp (disch := omega) only [h1, zb_shl, zb_orN, zbi_some, zbl_some, zbv_some, zbi_none, zbl_none, zbv_none, zbi_ite, zbl_ite, zbv_ite, zbZ, zbO, zc_lt, zc_le, zc_ge, zc_gt, zc_eq, zk0, zk1, zk2, zk3, zk4, zk5, zk6, zk7, zk8, zk9, zk10, zk11, zk12, zk14, zk15, zk16, zk17, zk19, zk20, zk21, zk24, zk25, zk30, zk32, zk36, zk40, zk45, zk50, zk64, zk97, zk99, zk100, zk102, zk122, zk128, zk255, zk800, zk801, zk900, zk999, zk1000, zk1997, zk9999, zk10000, zk100000, zk99999, zk9999999, zk999999999, zk2147483647, zlc0, zlc1, zlc2, zlc3, zlc4, zlc23, zlc99, zlc100, zlc9999999, zlc999999999999, zlc1073741824, zi_neg, zi_add, zi_sub, zi_mul, zl_neg, zl_add, zl_sub, zl_mul, zi_toInt, zi_nat, zi_le, zi_lt, zi_eq, zl_le, zl_lt, zl_eq, zl_toInt, zl_of32, zi_of64, zi_div, zl_div, zmodI, ↓reduceIte, zTle, zFle, zTlt, zFlt, zTeq, zFeq, if_true, if_false, and_self, and_true, true_and, and_false, false_and, or_self, or_true, true_or, or_false, false_or, not_true_eq_false, not_false_eq_true, zcastA, zcastL, znatC, zab, Int.reduceAdd, Int.reduceSub, Int.reduceMul, Int.reduceNeg, Int.reduceToNat, Nat.reduceAdd]
    · have no : ∀ j, j < n → oE U (gs U n i) j = false := fun j hj => by
        cases z : oE U (gs U n i) j with
        | false => rfl
        | true => exact absurd ⟨j, hj, z⟩ q
      have I := ff_in d len n ν U μ1 i (by rw [e46]; exact hR) h1 s1 (zi (i : Int)) n (Nat.le_refl n) no (Or.inl rfl)
      refine ⟨μ1, 0, ?_, e, Or.inr ⟨rfl, ?_⟩⟩
      · rw [H, I, B_X8_findFirst_49]
        simp (disch := omega) only [h1, zbi_some, zbl_some, zbv_some, zbi_none, zbl_none, zbv_none, zbi_ite, zbl_ite, zbv_ite, zbZ, zbO, zc_lt, zc_le, zc_ge, zc_gt, zc_eq, zk0, zk1, zk2, zk3, zk4, zk5, zk6, zk7, zk8, zk9, zk10, zk11, zk12, zk14, zk15, zk16, zk17, zk19, zk20, zk21, zk24, zk25, zk30, zk32, zk36, zk40, zk45, zk50, zk64, zk97, zk99, zk100, zk102, zk122, zk128, zk255, zk800, zk801, zk900, zk999, zk1000, zk1997, zk9999, zk10000, zk100000, zk99999, zk9999999, zk999999999, zk2147483647, zlc0, zlc1, zlc2, zlc3, zlc4, zlc23, zlc99, zlc100, zlc9999999, zlc999999999999, zlc1073741824, zi_neg, zi_add, zi_sub, zi_mul, zl_neg, zl_add, zl_sub, zl_mul, zi_toInt, zi_nat, zi_le, zi_lt, zi_eq, zl_le, zl_lt, zl_eq, zl_toInt, zl_of32, zi_of64, zi_div, zl_div, zmodI, ↓reduceIte, zTle, zFle, zTlt, zFlt, zTeq, zFeq, if_true, if_false, and_self, and_true, true_and, and_false, false_and, or_self, or_true, true_or, or_false, false_or, not_true_eq_false, not_false_eq_true, zcastA, zcastL, znatC, zab, Int.reduceAdd, Int.reduceSub, Int.reduceMul, Int.reduceNeg, Int.reduceToNat, Nat.reduceAdd]
      · by_cases z : oB U n 0 = 0
        · exact z
        · exact absurd ((gs_ok z i (by omega)).2.2.2 (by omega)) q
theorem F_first (d len n : Nat) (ν : zNu) (U : Nat → Nat) (μ : zMu) (hR : Rs n U (μ 46)) (hc : μ 45 0 = zi (n : Int)) : ∃ (μ' : zMu) (r : Int), zF zT0 (d + 1) 104 [.ref 45] (zm len μ ν) = some (.int (zi r), zm len μ' ν) ∧ (∀ q, q ≠ 48 → μ' q = μ q) ∧ (r = 1 ∧ oB U n 0 ≠ 0 ∧ (∀ j, j < n → μ' 48 j = zi (gk U n j : Int)) ∨ r = 0 ∧ oB U n 0 = 0) := by
  obtain ⟨μ', r, a, b, c⟩ := ff_out d len n ν U μ hR hc n 0 μ zU (by omega) (fun r _ => rfl) (fun j h => by omega) (fun j h => by omega)
  refine ⟨μ', r, ?_, b, c⟩
  rw [B_X8_findFirst, ← a]
  rfl
theorem F_inOrder (d len n : Nat) (ν : zNu) (U : Nat → Nat) (μ : zMu) (k : Nat) (hR : Rs n U (μ 126)) (hk : k < n) (h0 : oB U n 0 ≠ 0) (hq : ∀ s, s < 2 ^ n → μ 127 s = zi (oB U n s)) : zF zT0 (d + 1) 236 [.ref 92, .int (zi (k : Int))] (zm len μ ν) = some (.int (zi (gk U n k : Int)), zm len μ ν) := by
  have hp : 2 ^ n ≤ 2 ^ 10 := Nat.pow_le_pow_right (by decide) hR.1
  have n10 := hR.1
  have step : ∀ i, i < n → ∀ x3 : Int32, i ≤ k → zE zc_X12_inOrder (zF zT0 d) 7 [.ref 92, .int (zi (k : Int)), .int (zi (gs U n i : Int)), .int x3, .int (zi (i : Int))] [] (zm len μ ν) = zE zc_X12_inOrder (zF zT0 d) 7 [.ref 92, .int (zi (k : Int)), .int (zi (gs U n (i + 1) : Int)), .int (zi (gk U n i : Int)), .int (zi ((i + 1 : Nat) : Int))] [] (zm len μ ν) := fun i hi x3 hik => by
    obtain ⟨a1, a2, a3, a4⟩ := gs_ok h0 i (by omega)
    obtain ⟨b1, b2, b3, b4, b5, b6⟩ := gs_1 a1 (a4 hi)
    obtain ⟨g, hg⟩ : ∃ g, g = gs U n i := ⟨_, rfl⟩
    rw [← hg] at a1 a2 b2 b3 b4 ⊢
    have K := zloop (f := fun j => zE zc_X12_inOrder (zF zT0 d) 15 [.ref 92, .int (zi (k : Int)), .int (zi (g : Int)), .int (zi (j : Int)), .int (zi (i : Int))] [] (zm len μ ν)) (n := gk U n i) (fun j hj => by
      have no := b3 j hj
      have u := hR.2 j
      have u2 := u.2.1
      have le := sdf_le (U j) g
      show zE _ _ _ _ _ _ = zE _ _ _ _ _ _
      rw [B_X12_inOrder_15]
      cases q : g.testBit j with
      | true => simp (disch := omega) only [zb_bit, q, B_X12_inOrder_50, zbi_some, zbl_some, zbv_some, zbi_none, zbl_none, zbv_none, zbi_ite, zbl_ite, zbv_ite, zbZ, zbO, zc_lt, zc_le, zc_ge, zc_gt, zc_eq, zk0, zk1, zk2, zk3, zk4, zk5, zk6, zk7, zk8, zk9, zk10, zk11, zk12, zk14, zk15, zk16, zk17, zk19, zk20, zk21, zk24, zk25, zk30, zk32, zk36, zk40, zk45, zk50, zk64, zk97, zk99, zk100, zk102, zk122, zk128, zk255, zk800, zk801, zk900, zk999, zk1000, zk1997, zk9999, zk10000, zk100000, zk99999, zk9999999, zk999999999, zk2147483647, zlc0, zlc1, zlc2, zlc3, zlc4, zlc23, zlc99, zlc100, zlc9999999, zlc999999999999, zlc1073741824, zi_neg, zi_add, zi_sub, zi_mul, zl_neg, zl_add, zl_sub, zl_mul, zi_toInt, zi_nat, zi_le, zi_lt, zi_eq, zl_le, zl_lt, zl_eq, zl_toInt, zl_of32, zi_of64, zi_div, zl_div, zmodI, ↓reduceIte, zTle, zFle, zTlt, zFlt, zTeq, zFeq, if_true, if_false, and_self, and_true, true_and, and_false, false_and, or_self, or_true, true_or, or_false, false_or, not_true_eq_false, not_false_eq_true, zcastA, zcastL, znatC, zab, Int.reduceAdd, Int.reduceSub, Int.reduceMul, Int.reduceNeg, Int.reduceToNat, Nat.reduceAdd]
      | false =>
        have z : ¬ sdf (U j) g = 0 := fun z => by
          rw [oE_t.mpr ⟨q, sdf_0.mp z⟩] at no
          cases no
        have z' : ¬ ((sdf (U j) g : Nat) : Int) = 0 := by omega
        simp (disch := omega) only [zb_bit, q, Bool.false_eq_true, u.1, zb_not, z', B_X12_inOrder_50, zbi_some, zbl_some, zbv_some, zbi_none, zbl_none, zbv_none, zbi_ite, zbl_ite, zbv_ite, zbZ, zbO, zc_lt, zc_le, zc_ge, zc_gt, zc_eq, zk0, zk1, zk2, zk3, zk4, zk5, zk6, zk7, zk8, zk9, zk10, zk11, zk12, zk14, zk15, zk16, zk17, zk19, zk20, zk21, zk24, zk25, zk30, zk32, zk36, zk40, zk45, zk50, zk64, zk97, zk99, zk100, zk102, zk122, zk128, zk255, zk800, zk801, zk900, zk999, zk1000, zk1997, zk9999, zk10000, zk100000, zk99999, zk9999999, zk999999999, zk2147483647, zlc0, zlc1, zlc2, zlc3, zlc4, zlc23, zlc99, zlc100, zlc9999999, zlc999999999999, zlc1073741824, zi_neg, zi_add, zi_sub, zi_mul, zl_neg, zl_add, zl_sub, zl_mul, zi_toInt, zi_nat, zi_le, zi_lt, zi_eq, zl_le, zl_lt, zl_eq, zl_toInt, zl_of32, zi_of64, zi_div, zl_div, zmodI, ↓reduceIte, zTle, zFle, zTlt, zFlt, zTeq, zFeq, if_true, if_false, and_self, and_true, true_and, and_false, false_and, or_self, or_true, true_or, or_false, false_or, not_true_eq_false, not_false_eq_true, zcastA, zcastL, znatC, zab, Int.reduceAdd, Int.reduceSub, Int.reduceMul, Int.reduceNeg, Int.reduceToNat, Nat.reduceAdd])
    have K0 : zE zc_X12_inOrder (zF zT0 d) 15 [.ref 92, .int (zi (k : Int)), .int (zi (g : Int)), .int (zi 0), .int (zi (i : Int))] [] (zm len μ ν) = zE zc_X12_inOrder (zF zT0 d) 15 [.ref 92, .int (zi (k : Int)), .int (zi (g : Int)), .int (zi (gk U n i : Int)), .int (zi (i : Int))] [] (zm len μ ν) := K
    have u := hR.2 (gk U n i)
    obtain ⟨y1, y2⟩ := oE_t.mp b2
    have z := sdf_0.mpr y2
    have l2 := or_lt a1 b1
    have h7 := hq (g ||| 2 ^ gk U n i) l2
    have ob := oB_b U hR.1 l2
    have nz := oB_ex _ g (gk U n i) (Nat.le_refl _) a1 b1 b2 a2
    rw [B_X12_inOrder_7, b4]
    simp (disch := omega) only [K0, zbi_some, zbl_some, zbv_some, zbi_none, zbl_none, zbv_none, zbi_ite, zbl_ite, zbv_ite, zbZ, zbO, zc_lt, zc_le, zc_ge, zc_gt, zc_eq, zk0, zk1, zk2, zk3, zk4, zk5, zk6, zk7, zk8, zk9, zk10, zk11, zk12, zk14, zk15, zk16, zk17, zk19, zk20, zk21, zk24, zk25, zk30, zk32, zk36, zk40, zk45, zk50, zk64, zk97, zk99, zk100, zk102, zk122, zk128, zk255, zk800, zk801, zk900, zk999, zk1000, zk1997, zk9999, zk10000, zk100000, zk99999, zk9999999, zk999999999, zk2147483647, zlc0, zlc1, zlc2, zlc3, zlc4, zlc23, zlc99, zlc100, zlc9999999, zlc999999999999, zlc1073741824, zi_neg, zi_add, zi_sub, zi_mul, zl_neg, zl_add, zl_sub, zl_mul, zi_toInt, zi_nat, zi_le, zi_lt, zi_eq, zl_le, zl_lt, zl_eq, zl_toInt, zl_of32, zi_of64, zi_div, zl_div, zmodI, ↓reduceIte, zTle, zFle, zTlt, zFlt, zTeq, zFeq, if_true, if_false, and_self, and_true, true_and, and_false, false_and, or_self, or_true, true_or, or_false, false_or, not_true_eq_false, not_false_eq_true, zcastA, zcastL, znatC, zab, Int.reduceAdd, Int.reduceSub, Int.reduceMul, Int.reduceNeg, Int.reduceToNat, Nat.reduceAdd]
    rw [B_X12_inOrder_15]
    simp (disch := omega) only [zb_bit, y1, Bool.false_eq_true, u.1, zb_not, z, zb_shl, zb_orN, h7, nz, zbi_some, zbl_some, zbv_some, zbi_none, zbl_none, zbv_none, zbi_ite, zbl_ite, zbv_ite, zbZ, zbO, zc_lt, zc_le, zc_ge, zc_gt, zc_eq, zk0, zk1, zk2, zk3, zk4, zk5, zk6, zk7, zk8, zk9, zk10, zk11, zk12, zk14, zk15, zk16, zk17, zk19, zk20, zk21, zk24, zk25, zk30, zk32, zk36, zk40, zk45, zk50, zk64, zk97, zk99, zk100, zk102, zk122, zk128, zk255, zk800, zk801, zk900, zk999, zk1000, zk1997, zk9999, zk10000, zk100000, zk99999, zk9999999, zk999999999, zk2147483647, zlc0, zlc1, zlc2, zlc3, zlc4, zlc23, zlc99, zlc100, zlc9999999, zlc999999999999, zlc1073741824, zi_neg, zi_add, zi_sub, zi_mul, zl_neg, zl_add, zl_sub, zl_mul, zi_toInt, zi_nat, zi_le, zi_lt, zi_eq, zl_le, zl_lt, zl_eq, zl_toInt, zl_of32, zi_of64, zi_div, zl_div, zmodI, ↓reduceIte, zTle, zFle, zTlt, zFlt, zTeq, zFeq, if_true, if_false, and_self, and_true, true_and, and_false, false_and, or_self, or_true, true_or, or_false, false_or, not_true_eq_false, not_false_eq_true, zcastA, zcastL, znatC, zab, Int.reduceAdd, Int.reduceSub, Int.reduceMul, Int.reduceNeg, Int.reduceToNat, Nat.reduceAdd]
  have all : ∀ i, i ≤ k → zE zc_X12_inOrder (zF zT0 d) 7 [.ref 92, .int (zi (k : Int)), .int (zi 0), .int (zi (-1)), .int (zi 0)] [] (zm len μ ν) = zE zc_X12_inOrder (zF zT0 d) 7 [.ref 92, .int (zi (k : Int)), .int (zi (gs U n (i + 1) : Int)), .int (zi (gk U n i : Int)), .int (zi ((i + 1 : Nat) : Int))] [] (zm len μ ν) := by
    intro i
    induction i with
    | zero =>
      intro _
      exact step 0 (by omega) (zi (-1)) (by omega)
    | succ i ih =>
      intro hi
      rw [ih (by omega)]
      exact step (i + 1) (by omega) _ hi
  rw [B_X12_inOrder]
  refine Eq.trans (all k (Nat.le_refl k)) ?_
  rw [B_X12_inOrder_7]
  simp (disch := omega) only [zbi_some, zbl_some, zbv_some, zbi_none, zbl_none, zbv_none, zbi_ite, zbl_ite, zbv_ite, zbZ, zbO, zc_lt, zc_le, zc_ge, zc_gt, zc_eq, zk0, zk1, zk2, zk3, zk4, zk5, zk6, zk7, zk8, zk9, zk10, zk11, zk12, zk14, zk15, zk16, zk17, zk19, zk20, zk21, zk24, zk25, zk30, zk32, zk36, zk40, zk45, zk50, zk64, zk97, zk99, zk100, zk102, zk122, zk128, zk255, zk800, zk801, zk900, zk999, zk1000, zk1997, zk9999, zk10000, zk100000, zk99999, zk9999999, zk999999999, zk2147483647, zlc0, zlc1, zlc2, zlc3, zlc4, zlc23, zlc99, zlc100, zlc9999999, zlc999999999999, zlc1073741824, zi_neg, zi_add, zi_sub, zi_mul, zl_neg, zl_add, zl_sub, zl_mul, zi_toInt, zi_nat, zi_le, zi_lt, zi_eq, zl_le, zl_lt, zl_eq, zl_toInt, zl_of32, zi_of64, zi_div, zl_div, zmodI, ↓reduceIte, zTle, zFle, zTlt, zFlt, zTeq, zFeq, if_true, if_false, and_self, and_true, true_and, and_false, false_and, or_self, or_true, true_or, or_false, false_or, not_true_eq_false, not_false_eq_true, zcastA, zcastL, znatC, zab, Int.reduceAdd, Int.reduceSub, Int.reduceMul, Int.reduceNeg, Int.reduceToNat, Nat.reduceAdd]

/-! TOKENS: one token, for both sides -/
theorem upd_upd2 (f : Nat → Int32) (i j : Nat) (x y : Int32) (h : i ≠ j) : upd (upd f i x) j y = upd (upd f j y) i x := by
  funext a
  by_cases h1 : a = i
  · subst h1
    rw [upd_ne _ _ h, upd_eq, upd_eq]
  · by_cases h2 : a = j
    · subst h2
      rw [upd_eq, upd_ne _ _ h1, upd_eq]
    · rw [upd_ne _ _ h2, upd_ne _ _ h1, upd_ne _ _ h1, upd_ne _ _ h2]
/-- what next() leaves: a token from p to e -/
def Nst (r r' : Nat → Int32) (p e : Nat) (ty va : Int) : Prop := r' 7 = zi (e : Int) ∧ r' 8 = zi (p : Int) ∧ r' 9 = zi (mt ty) ∧ (2 ≤ ty → r' 10 = zi (mv ty va)) ∧ ∀ i, i ≠ 7 → i ≠ 8 → i ≠ 9 → i ≠ 10 → r' i = r i
def KC (g : Nat → Int) (L p n : Nat) (ty va : Int) : Prop := ∀ (d len : Nat) (μ : zMu) (ν : zNu), (∀ i, μ 7 i = zi (g i)) → μ 6 1 = zi (L : Int) → zF zT0 (d + 2) 122 [.ref 6, .int (zi (p : Int))] (zm len μ ν) = some (.int (zi (n : Int)), zm len μ ν) ∧ zF zT0 (d + 7) 123 [.ref 6, .int (zi (p : Int)), .int (zi (n : Int))] (zm len μ ν) = some (.int (zi (ck ty va)), zm len μ ν) ∧ ∃ cv : Int, (2 ≤ ty ∧ ty ≤ 3 → cv = va) ∧ zF zT0 (d + 2) 124 [.ref 6, .int (zi (p : Int)), .int (zi (n : Int))] (zm len μ ν) = some (.int (zi cv), zm len μ ν)
def KM (g : Nat → Int) (L p n : Nat) (ty va : Int) : Prop := ∀ (d len : Nat) (μ : zMu) (ν : zNu) (r : Nat → Int32) (v : Value), (∀ i, μ 96 i = zi (g i)) → (∀ i : Nat, i < 80 → μ 97 i = zi (mch i)) → r 6 = zi (L : Int) → r 7 = zi (p : Int) → ∃ r', zE zc_X12_next (zF zT0 (d + 2)) 0 [.ref 92, v] [] (zm len (zrw μ 92 r) ν) = some (.null, zm len (zrw μ 92 r') ν) ∧ Nst r r' p (p + n) ty va
section NEXT
variable (d len : Nat) (μ : zMu) (ν : zNu) (g : Nat → Int)
theorem nx_let (hg : ∀ i, 0 ≤ g i ∧ g i ≤ 255) (e96 : ∀ i, μ 96 i = zi (g i)) (L p n : Nat) (hL : L ≤ 800) (r : Nat → Int32) (e6 : r 6 = zi (L : Int)) (hp : p + n ≤ L) (h1 : ∀ j, j < n → ccl (g (p + j)) = 0) (h2 : p + n = L ∨ ccl (g (p + n)) ≠ 0) (x : Int32) : ∀ m j : Nat, j + m = n → zE zc_X12_next (zF zT0 (d + 2)) 95 [.ref 92, .int x] [] (zm len (zrw μ 92 (upd r 7 (zi ((p : Int) + (j : Int))))) ν) = zbi (zF zT0 (d + 2) 200 [.ref 92, .int (r 8), .int (zi ((p : Int) + (n : Int)))] (zm len (zrw μ 92 (upd r 7 (zi ((p : Int) + (n : Int))))) ν)) (fun w' M' => zE zc_X12_next (zF zT0 (d + 2)) 136 [.ref 92, .int x] [.int w', .ref 92] M') := by
  intro m
  induction m with
  | zero =>
    intro j hj
    have : j = n := by omega
    subst this
    have ix : ((p : Int) + (j : Int)).toNat = p + j := by omega
    rw [B_X12_next_95]
    by_cases z : p + j = L
    · have w : ¬ ccl (-1) = 0 := by decide
      simp (disch := omega) only [B_X12_raw, zrw_s, zrw_n, upd_eq, upd_ne, e6, B_X12_next_104, F_isLetM, w, zbF, B_X12_next_107, zbi_some, zbl_some, zbv_some, zbi_none, zbl_none, zbv_none, zbi_ite, zbl_ite, zbv_ite, zbZ, zbO, zc_lt, zc_le, zc_ge, zc_gt, zc_eq, zk0, zk1, zk2, zk3, zk4, zk5, zk6, zk7, zk8, zk9, zk10, zk11, zk12, zk14, zk15, zk16, zk17, zk19, zk20, zk21, zk24, zk25, zk30, zk32, zk36, zk40, zk45, zk50, zk64, zk97, zk99, zk100, zk102, zk122, zk128, zk255, zk800, zk801, zk900, zk999, zk1000, zk1997, zk9999, zk10000, zk100000, zk99999, zk9999999, zk999999999, zk2147483647, zlc0, zlc1, zlc2, zlc3, zlc4, zlc23, zlc99, zlc100, zlc9999999, zlc999999999999, zlc1073741824, zi_neg, zi_add, zi_sub, zi_mul, zl_neg, zl_add, zl_sub, zl_mul, zi_toInt, zi_nat, zi_le, zi_lt, zi_eq, zl_le, zl_lt, zl_eq, zl_toInt, zl_of32, zi_of64, zi_div, zl_div, zmodI, ↓reduceIte, zTle, zFle, zTlt, zFlt, zTeq, zFeq, if_true, if_false, and_self, and_true, true_and, and_false, false_and, or_self, or_true, true_or, or_false, false_or, not_true_eq_false, not_false_eq_true, zcastA, zcastL, znatC, zab, Int.reduceAdd, Int.reduceSub, Int.reduceMul, Int.reduceNeg, Int.reduceToNat, Nat.reduceAdd]
    · have w : ¬ ccl (g (p + j)) = 0 := by
        rcases h2 with w | w
        · omega
        · exact w
      have b := hg (p + j)
      simp (disch := omega) only [B_X12_raw, zrw_s, zrw_n, upd_eq, upd_ne, e6, ix, e96, B_X12_next_104, F_isLetM, w, zbF, B_X12_next_107, zbi_some, zbl_some, zbv_some, zbi_none, zbl_none, zbv_none, zbi_ite, zbl_ite, zbv_ite, zbZ, zbO, zc_lt, zc_le, zc_ge, zc_gt, zc_eq, zk0, zk1, zk2, zk3, zk4, zk5, zk6, zk7, zk8, zk9, zk10, zk11, zk12, zk14, zk15, zk16, zk17, zk19, zk20, zk21, zk24, zk25, zk30, zk32, zk36, zk40, zk45, zk50, zk64, zk97, zk99, zk100, zk102, zk122, zk128, zk255, zk800, zk801, zk900, zk999, zk1000, zk1997, zk9999, zk10000, zk100000, zk99999, zk9999999, zk999999999, zk2147483647, zlc0, zlc1, zlc2, zlc3, zlc4, zlc23, zlc99, zlc100, zlc9999999, zlc999999999999, zlc1073741824, zi_neg, zi_add, zi_sub, zi_mul, zl_neg, zl_add, zl_sub, zl_mul, zi_toInt, zi_nat, zi_le, zi_lt, zi_eq, zl_le, zl_lt, zl_eq, zl_toInt, zl_of32, zi_of64, zi_div, zl_div, zmodI, ↓reduceIte, zTle, zFle, zTlt, zFlt, zTeq, zFeq, if_true, if_false, and_self, and_true, true_and, and_false, false_and, or_self, or_true, true_or, or_false, false_or, not_true_eq_false, not_false_eq_true, zcastA, zcastL, znatC, zab, Int.reduceAdd, Int.reduceSub, Int.reduceMul, Int.reduceNeg, Int.reduceToNat, Nat.reduceAdd]
  | succ m ih =>
    intro j hj
    have ix : ((p : Int) + (j : Int)).toNat = p + j := by omega
    have b := hg (p + j)
    have c := h1 j (by omega)
    have e := ih (j + 1) (by omega)
    rw [show (p : Int) + ((j + 1 : Nat) : Int) = (p : Int) + (j : Int) + 1 by omega] at e
    rw [B_X12_next_95]
    simp (disch := omega) only [B_X12_raw, zrw_s, zrw_n, upd_eq, upd_ne, e6, ix, e96, B_X12_next_104, F_isLetM, c, zbT, B_X12_next_107, zup_zrw, upd_upd, zbi_some, zbl_some, zbv_some, zbi_none, zbl_none, zbv_none, zbi_ite, zbl_ite, zbv_ite, zbZ, zbO, zc_lt, zc_le, zc_ge, zc_gt, zc_eq, zk0, zk1, zk2, zk3, zk4, zk5, zk6, zk7, zk8, zk9, zk10, zk11, zk12, zk14, zk15, zk16, zk17, zk19, zk20, zk21, zk24, zk25, zk30, zk32, zk36, zk40, zk45, zk50, zk64, zk97, zk99, zk100, zk102, zk122, zk128, zk255, zk800, zk801, zk900, zk999, zk1000, zk1997, zk9999, zk10000, zk100000, zk99999, zk9999999, zk999999999, zk2147483647, zlc0, zlc1, zlc2, zlc3, zlc4, zlc23, zlc99, zlc100, zlc9999999, zlc999999999999, zlc1073741824, zi_neg, zi_add, zi_sub, zi_mul, zl_neg, zl_add, zl_sub, zl_mul, zi_toInt, zi_nat, zi_le, zi_lt, zi_eq, zl_le, zl_lt, zl_eq, zl_toInt, zl_of32, zi_of64, zi_div, zl_div, zmodI, ↓reduceIte, zTle, zFle, zTlt, zFlt, zTeq, zFeq, if_true, if_false, and_self, and_true, true_and, and_false, false_and, or_self, or_true, true_or, or_false, false_or, not_true_eq_false, not_false_eq_true, zcastA, zcastL, znatC, zab, Int.reduceAdd, Int.reduceSub, Int.reduceMul, Int.reduceNeg, Int.reduceToNat, Nat.reduceAdd]
    exact e
theorem nx_dig (hg : ∀ i, 0 ≤ g i ∧ g i ≤ 255) (e96 : ∀ i, μ 96 i = zi (g i)) (L p n : Nat) (hL : L ≤ 800) (r : Nat → Int32) (e6 : r 6 = zi (L : Int)) (e8 : r 8 = zi (p : Int)) (hp : p + n ≤ L) (h1 : ∀ j, j < n → ccl (g (p + j)) = 1) (h2 : p + n = L ∨ ccl (g (p + n)) ≠ 1) (x : Int32) : ∀ m j : Nat, j + m = n → ∀ v : Int, 0 ≤ v ∧ v ≤ 100089 → (j ≤ 4 → v = dvl g p j) → ∃ w : Int, (n ≤ 4 → w = dvl g p n) ∧ zE zc_X12_next (zF zT0 (d + 2)) 171 [.ref 92, .int x] [] (zm len (zrw μ 92 (upd (upd r 10 (zi v)) 7 (zi ((p : Int) + (j : Int))))) ν) = (if (n : Int) ≤ 4 then some (.null, zm len (zrw μ 92 (upd (upd (upd r 10 (zi w)) 7 (zi ((p : Int) + (n : Int)))) 9 (zi 3))) ν) else some (.null, zm len (zrw μ 92 (upd (upd r 10 (zi w)) 7 (zi ((p : Int) + (n : Int))))) ν)) := by
  intro m
  induction m with
  | zero =>
    intro j hj v hv hd
    have : j = n := by omega
    subst this
    refine ⟨v, hd, ?_⟩
    have ix : ((p : Int) + (j : Int)).toNat = p + j := by omega
    have ee : (p : Int) + (j : Int) - (p : Int) = (j : Int) := by omega
    rw [B_X12_next_171]
    by_cases z : p + j = L
    · have w : ¬ ccl (-1) = 1 := by decide
      by_cases q : j ≤ 4
      · simp (disch := omega) only [B_X12_raw, zrw_s, zrw_n, upd_eq, upd_ne, e6, e8, ee, B_X12_next_180, F_isDigM, w, zbF, B_X12_next_183, zup_zrw, zbi_some, zbl_some, zbv_some, zbi_none, zbl_none, zbv_none, zbi_ite, zbl_ite, zbv_ite, zbZ, zbO, zc_lt, zc_le, zc_ge, zc_gt, zc_eq, zk0, zk1, zk2, zk3, zk4, zk5, zk6, zk7, zk8, zk9, zk10, zk11, zk12, zk14, zk15, zk16, zk17, zk19, zk20, zk21, zk24, zk25, zk30, zk32, zk36, zk40, zk45, zk50, zk64, zk97, zk99, zk100, zk102, zk122, zk128, zk255, zk800, zk801, zk900, zk999, zk1000, zk1997, zk9999, zk10000, zk100000, zk99999, zk9999999, zk999999999, zk2147483647, zlc0, zlc1, zlc2, zlc3, zlc4, zlc23, zlc99, zlc100, zlc9999999, zlc999999999999, zlc1073741824, zi_neg, zi_add, zi_sub, zi_mul, zl_neg, zl_add, zl_sub, zl_mul, zi_toInt, zi_nat, zi_le, zi_lt, zi_eq, zl_le, zl_lt, zl_eq, zl_toInt, zl_of32, zi_of64, zi_div, zl_div, zmodI, ↓reduceIte, zTle, zFle, zTlt, zFlt, zTeq, zFeq, if_true, if_false, and_self, and_true, true_and, and_false, false_and, or_self, or_true, true_or, or_false, false_or, not_true_eq_false, not_false_eq_true, zcastA, zcastL, znatC, zab, Int.reduceAdd, Int.reduceSub, Int.reduceMul, Int.reduceNeg, Int.reduceToNat, Nat.reduceAdd]
      · simp (disch := omega) only [B_X12_raw, zrw_s, zrw_n, upd_eq, upd_ne, e6, e8, ee, B_X12_next_180, F_isDigM, w, zbF, B_X12_next_183, zup_zrw, zbi_some, zbl_some, zbv_some, zbi_none, zbl_none, zbv_none, zbi_ite, zbl_ite, zbv_ite, zbZ, zbO, zc_lt, zc_le, zc_ge, zc_gt, zc_eq, zk0, zk1, zk2, zk3, zk4, zk5, zk6, zk7, zk8, zk9, zk10, zk11, zk12, zk14, zk15, zk16, zk17, zk19, zk20, zk21, zk24, zk25, zk30, zk32, zk36, zk40, zk45, zk50, zk64, zk97, zk99, zk100, zk102, zk122, zk128, zk255, zk800, zk801, zk900, zk999, zk1000, zk1997, zk9999, zk10000, zk100000, zk99999, zk9999999, zk999999999, zk2147483647, zlc0, zlc1, zlc2, zlc3, zlc4, zlc23, zlc99, zlc100, zlc9999999, zlc999999999999, zlc1073741824, zi_neg, zi_add, zi_sub, zi_mul, zl_neg, zl_add, zl_sub, zl_mul, zi_toInt, zi_nat, zi_le, zi_lt, zi_eq, zl_le, zl_lt, zl_eq, zl_toInt, zl_of32, zi_of64, zi_div, zl_div, zmodI, ↓reduceIte, zTle, zFle, zTlt, zFlt, zTeq, zFeq, if_true, if_false, and_self, and_true, true_and, and_false, false_and, or_self, or_true, true_or, or_false, false_or, not_true_eq_false, not_false_eq_true, zcastA, zcastL, znatC, zab, Int.reduceAdd, Int.reduceSub, Int.reduceMul, Int.reduceNeg, Int.reduceToNat, Nat.reduceAdd]
    · have w : ¬ ccl (g (p + j)) = 1 := by
        rcases h2 with w | w
        · omega
        · exact w
      have b := hg (p + j)
      by_cases q : j ≤ 4
      · simp (disch := omega) only [B_X12_raw, zrw_s, zrw_n, upd_eq, upd_ne, e6, e8, ee, ix, e96, B_X12_next_180, F_isDigM, w, zbF, B_X12_next_183, zup_zrw, zbi_some, zbl_some, zbv_some, zbi_none, zbl_none, zbv_none, zbi_ite, zbl_ite, zbv_ite, zbZ, zbO, zc_lt, zc_le, zc_ge, zc_gt, zc_eq, zk0, zk1, zk2, zk3, zk4, zk5, zk6, zk7, zk8, zk9, zk10, zk11, zk12, zk14, zk15, zk16, zk17, zk19, zk20, zk21, zk24, zk25, zk30, zk32, zk36, zk40, zk45, zk50, zk64, zk97, zk99, zk100, zk102, zk122, zk128, zk255, zk800, zk801, zk900, zk999, zk1000, zk1997, zk9999, zk10000, zk100000, zk99999, zk9999999, zk999999999, zk2147483647, zlc0, zlc1, zlc2, zlc3, zlc4, zlc23, zlc99, zlc100, zlc9999999, zlc999999999999, zlc1073741824, zi_neg, zi_add, zi_sub, zi_mul, zl_neg, zl_add, zl_sub, zl_mul, zi_toInt, zi_nat, zi_le, zi_lt, zi_eq, zl_le, zl_lt, zl_eq, zl_toInt, zl_of32, zi_of64, zi_div, zl_div, zmodI, ↓reduceIte, zTle, zFle, zTlt, zFlt, zTeq, zFeq, if_true, if_false, and_self, and_true, true_and, and_false, false_and, or_self, or_true, true_or, or_false, false_or, not_true_eq_false, not_false_eq_true, zcastA, zcastL, znatC, zab, Int.reduceAdd, Int.reduceSub, Int.reduceMul, Int.reduceNeg, Int.reduceToNat, Nat.reduceAdd]
      · simp (disch := omega) only [B_X12_raw, zrw_s, zrw_n, upd_eq, upd_ne, e6, e8, ee, ix, e96, B_X12_next_180, F_isDigM, w, zbF, B_X12_next_183, zup_zrw, zbi_some, zbl_some, zbv_some, zbi_none, zbl_none, zbv_none, zbi_ite, zbl_ite, zbv_ite, zbZ, zbO, zc_lt, zc_le, zc_ge, zc_gt, zc_eq, zk0, zk1, zk2, zk3, zk4, zk5, zk6, zk7, zk8, zk9, zk10, zk11, zk12, zk14, zk15, zk16, zk17, zk19, zk20, zk21, zk24, zk25, zk30, zk32, zk36, zk40, zk45, zk50, zk64, zk97, zk99, zk100, zk102, zk122, zk128, zk255, zk800, zk801, zk900, zk999, zk1000, zk1997, zk9999, zk10000, zk100000, zk99999, zk9999999, zk999999999, zk2147483647, zlc0, zlc1, zlc2, zlc3, zlc4, zlc23, zlc99, zlc100, zlc9999999, zlc999999999999, zlc1073741824, zi_neg, zi_add, zi_sub, zi_mul, zl_neg, zl_add, zl_sub, zl_mul, zi_toInt, zi_nat, zi_le, zi_lt, zi_eq, zl_le, zl_lt, zl_eq, zl_toInt, zl_of32, zi_of64, zi_div, zl_div, zmodI, ↓reduceIte, zTle, zFle, zTlt, zFlt, zTeq, zFeq, if_true, if_false, and_self, and_true, true_and, and_false, false_and, or_self, or_true, true_or, or_false, false_or, not_true_eq_false, not_false_eq_true, zcastA, zcastL, znatC, zab, Int.reduceAdd, Int.reduceSub, Int.reduceMul, Int.reduceNeg, Int.reduceToNat, Nat.reduceAdd]
  | succ m ih =>
    intro j hj v hv hd
    have ix : ((p : Int) + (j : Int)).toNat = p + j := by omega
    have b := hg (p + j)
    have c := h1 j (by omega)
    have c' := ccl_1.mp c
    rw [B_X12_next_171]
    by_cases q : 10000 ≤ v
    · obtain ⟨w, w1, e⟩ := ih (j + 1) (by omega) v hv (fun z => by
        have := dvl_r g p j (fun i hi => ccl_1.mp (h1 i (by omega))) (by omega)
        rw [← hd (by omega)] at this
        split at this
        · omega
        · split at this
          · omega
          · split at this
            · omega
            · split at this <;> omega)
      refine ⟨w, w1, ?_⟩
      rw [show (p : Int) + ((j + 1 : Nat) : Int) = (p : Int) + (j : Int) + 1 by omega] at e
      simp (disch := omega) only [B_X12_raw, zrw_s, zrw_n, upd_eq, upd_ne, e6, ix, e96, B_X12_next_180, F_isDigM, c, zbT, B_X12_next_183, B_X12_next_223, zup_zrw, zbi_some, zbl_some, zbv_some, zbi_none, zbl_none, zbv_none, zbi_ite, zbl_ite, zbv_ite, zbZ, zbO, zc_lt, zc_le, zc_ge, zc_gt, zc_eq, zk0, zk1, zk2, zk3, zk4, zk5, zk6, zk7, zk8, zk9, zk10, zk11, zk12, zk14, zk15, zk16, zk17, zk19, zk20, zk21, zk24, zk25, zk30, zk32, zk36, zk40, zk45, zk50, zk64, zk97, zk99, zk100, zk102, zk122, zk128, zk255, zk800, zk801, zk900, zk999, zk1000, zk1997, zk9999, zk10000, zk100000, zk99999, zk9999999, zk999999999, zk2147483647, zlc0, zlc1, zlc2, zlc3, zlc4, zlc23, zlc99, zlc100, zlc9999999, zlc999999999999, zlc1073741824, zi_neg, zi_add, zi_sub, zi_mul, zl_neg, zl_add, zl_sub, zl_mul, zi_toInt, zi_nat, zi_le, zi_lt, zi_eq, zl_le, zl_lt, zl_eq, zl_toInt, zl_of32, zi_of64, zi_div, zl_div, zmodI, ↓reduceIte, zTle, zFle, zTlt, zFlt, zTeq, zFeq, if_true, if_false, and_self, and_true, true_and, and_false, false_and, or_self, or_true, true_or, or_false, false_or, not_true_eq_false, not_false_eq_true, zcastA, zcastL, znatC, zab, Int.reduceAdd, Int.reduceSub, Int.reduceMul, Int.reduceNeg, Int.reduceToNat, Nat.reduceAdd]
      rw [upd_upd2 _ 7 10 _ _ (by decide), upd_upd, upd_upd]
      exact e
    · obtain ⟨w, w1, e⟩ := ih (j + 1) (by omega) (10 * v + g (p + j) - 48) (by omega) (fun z => by
        rw [hd (by omega)]
        show _ = dvl g p j * 10 + (g (p + j) - 48)
        omega)
      refine ⟨w, w1, ?_⟩
      rw [show (p : Int) + ((j + 1 : Nat) : Int) = (p : Int) + (j : Int) + 1 by omega] at e
      simp (disch := omega) only [B_X12_raw, zrw_s, zrw_n, upd_eq, upd_ne, e6, ix, e96, B_X12_next_180, F_isDigM, c, zbT, B_X12_next_183, B_X12_next_212, zq48, B_X12_next_223, zup_zrw, zbi_some, zbl_some, zbv_some, zbi_none, zbl_none, zbv_none, zbi_ite, zbl_ite, zbv_ite, zbZ, zbO, zc_lt, zc_le, zc_ge, zc_gt, zc_eq, zk0, zk1, zk2, zk3, zk4, zk5, zk6, zk7, zk8, zk9, zk10, zk11, zk12, zk14, zk15, zk16, zk17, zk19, zk20, zk21, zk24, zk25, zk30, zk32, zk36, zk40, zk45, zk50, zk64, zk97, zk99, zk100, zk102, zk122, zk128, zk255, zk800, zk801, zk900, zk999, zk1000, zk1997, zk9999, zk10000, zk100000, zk99999, zk9999999, zk999999999, zk2147483647, zlc0, zlc1, zlc2, zlc3, zlc4, zlc23, zlc99, zlc100, zlc9999999, zlc999999999999, zlc1073741824, zi_neg, zi_add, zi_sub, zi_mul, zl_neg, zl_add, zl_sub, zl_mul, zi_toInt, zi_nat, zi_le, zi_lt, zi_eq, zl_le, zl_lt, zl_eq, zl_toInt, zl_of32, zi_of64, zi_div, zl_div, zmodI, ↓reduceIte, zTle, zFle, zTlt, zFlt, zTeq, zFeq, if_true, if_false, and_self, and_true, true_and, and_false, false_and, or_self, or_true, true_or, or_false, false_or, not_true_eq_false, not_false_eq_true, zcastA, zcastL, znatC, zab, Int.reduceAdd, Int.reduceSub, Int.reduceMul, Int.reduceNeg, Int.reduceToNat, Nat.reduceAdd]
      rw [upd_upd2 _ 7 10 _ _ (by decide), upd_upd, upd_upd]
      exact e
theorem upd_idx {f : Nat → Int32} {i : Nat} {v : Int32} (h : f i = v) : upd f i v = f := by
  funext a
  by_cases z : a = i
  · rw [z, upd_eq, h]
  · rw [upd_ne _ _ z]
def R1 (r : Nat → Int32) (p : Nat) (c : Int) : Nat → Int32 := upd (upd (upd (upd r 8 (zi (p : Int))) 9 (zi 1)) 7 (zi ((p : Int) + 1))) 10 (zi c)
theorem R1_f {r : Nat → Int32} {p : Nat} {c : Int} {i : Nat} (h7 : i ≠ 7) (h8 : i ≠ 8) (h9 : i ≠ 9) (h10 : i ≠ 10) : R1 r p c i = r i := by
  unfold R1
  rw [upd_ne _ _ h10, upd_ne _ _ h7, upd_ne _ _ h9, upd_ne _ _ h8]
theorem nx_start (hg : ∀ i, 0 ≤ g i ∧ g i ≤ 255) (e96 : ∀ i, μ 96 i = zi (g i)) (L p : Nat) (hL : L ≤ 800) (hp : p < L) (hb : g p ≠ 32 ∧ g p ≠ 10) (r : Nat → Int32) (e6 : r 6 = zi (L : Int)) (e7 : r 7 = zi (p : Int)) (v : Value) : zE zc_X12_next (zF zT0 (d + 2)) 0 [.ref 92, v] [] (zm len (zrw μ 92 r) ν) = zE zc_X12_next (zF zT0 (d + 2)) 92 [.ref 92, .int (zi (g p))] [.int (zb (ccl (g p) = 0))] (zm len (zrw μ 92 (R1 r p (g p))) ν) := by
  have b := hg p
  obtain ⟨b1, b2⟩ := hb
  rw [B_X12_next_0]
  simp (disch := omega) only [B_X12_raw, zrw_s, zrw_n, e6, e7, e96, b1, b2, B_X12_next_8, B_X12_next_21, zup_zrw, upd_eq, upd_ne, B_X12_next_60, F_isLetM, zbi_some, zbl_some, zbv_some, zbi_none, zbl_none, zbv_none, zbi_ite, zbl_ite, zbv_ite, zbZ, zbO, zc_lt, zc_le, zc_ge, zc_gt, zc_eq, zk0, zk1, zk2, zk3, zk4, zk5, zk6, zk7, zk8, zk9, zk10, zk11, zk12, zk14, zk15, zk16, zk17, zk19, zk20, zk21, zk24, zk25, zk30, zk32, zk36, zk40, zk45, zk50, zk64, zk97, zk99, zk100, zk102, zk122, zk128, zk255, zk800, zk801, zk900, zk999, zk1000, zk1997, zk9999, zk10000, zk100000, zk99999, zk9999999, zk999999999, zk2147483647, zlc0, zlc1, zlc2, zlc3, zlc4, zlc23, zlc99, zlc100, zlc9999999, zlc999999999999, zlc1073741824, zi_neg, zi_add, zi_sub, zi_mul, zl_neg, zl_add, zl_sub, zl_mul, zi_toInt, zi_nat, zi_le, zi_lt, zi_eq, zl_le, zl_lt, zl_eq, zl_toInt, zl_of32, zi_of64, zi_div, zl_div, zmodI, ↓reduceIte, zTle, zFle, zTlt, zFlt, zTeq, zFeq, if_true, if_false, and_self, and_true, true_and, and_false, false_and, or_self, or_true, true_or, or_false, false_or, not_true_eq_false, not_false_eq_true, zcastA, zcastL, znatC, zab, Int.reduceAdd, Int.reduceSub, Int.reduceMul, Int.reduceNeg, Int.reduceToNat, Nat.reduceAdd]
  rfl
theorem nxl (hg : ∀ i, 0 ≤ g i ∧ g i ≤ 255) (e96 : ∀ i, μ 96 i = zi (g i)) (L p n : Nat) (hL : L ≤ 800) (hp : p < L) (hb : g p ≠ 32 ∧ g p ≠ 10) (r : Nat → Int32) (e6 : r 6 = zi (L : Int)) (e7 : r 7 = zi (p : Int)) (v : Value) (hn : 1 ≤ n) (hpn : p + n ≤ L) (h1 : ∀ j, j < n → ccl (g (p + j)) = 0) (h2 : p + n = L ∨ ccl (g (p + n)) ≠ 0) (w : Int) (hw : -1 ≤ w ∧ w ≤ 20) (hW : ∀ r : Nat → Int32, zF zT0 (d + 2) 200 [.ref 92, .int (zi (p : Int)), .int (zi ((p : Int) + (n : Int)))] (zm len (zrw μ 92 r) ν) = some (.int (zi w), zm len (zrw μ 92 r) ν)) : ∃ r', zE zc_X12_next (zF zT0 (d + 2)) 0 [.ref 92, v] [] (zm len (zrw μ 92 r) ν) = some (.null, zm len (zrw μ 92 r') ν) ∧ r' 7 = zi ((p : Int) + (n : Int)) ∧ r' 8 = zi (p : Int) ∧ r' 9 = zi (if w = -1 then 1 else 2) ∧ r' 10 = zi w ∧ ∀ i, i ≠ 7 → i ≠ 8 → i ≠ 9 → i ≠ 10 → r' i = r i := by
  have c0 : ccl (g p) = 0 := by have := h1 0 (by omega); rw [Nat.add_zero] at this; exact this
  have N := nx_let d len μ ν g hg e96 L p n hL (R1 r p (g p)) (by rw [R1_f (by decide) (by decide) (by decide) (by decide)]; exact e6) hpn h1 h2 (zi (g p)) (n - 1) 1 (by omega)
  rw [upd_idx (show (R1 r p (g p)) 7 = zi ((p : Int) + ((1 : Nat) : Int)) from rfl), show (R1 r p (g p)) 8 = zi (p : Int) from rfl, hW] at N
  by_cases q : w = -1
  · refine ⟨upd (upd (R1 r p (g p)) 7 (zi ((p : Int) + (n : Int)))) 10 (zi w), ?_, rfl, rfl, by rw [if_pos q]; rfl, rfl, fun i i7 i8 i9 i10 => by rw [upd_ne _ _ i10, upd_ne _ _ i7, R1_f i7 i8 i9 i10]⟩
    rw [nx_start d len μ ν g hg e96 L p hL hp hb r e6 e7 v, B_X12_next_92]
    simp (disch := omega) only [c0, zbT, zbi_some, zbl_some, zbv_some, zbi_none, zbl_none, zbv_none, zbi_ite, zbl_ite, zbv_ite, zbZ, zbO, zc_lt, zc_le, zc_ge, zc_gt, zc_eq, zk0, zk1, zk2, zk3, zk4, zk5, zk6, zk7, zk8, zk9, zk10, zk11, zk12, zk14, zk15, zk16, zk17, zk19, zk20, zk21, zk24, zk25, zk30, zk32, zk36, zk40, zk45, zk50, zk64, zk97, zk99, zk100, zk102, zk122, zk128, zk255, zk800, zk801, zk900, zk999, zk1000, zk1997, zk9999, zk10000, zk100000, zk99999, zk9999999, zk999999999, zk2147483647, zlc0, zlc1, zlc2, zlc3, zlc4, zlc23, zlc99, zlc100, zlc9999999, zlc999999999999, zlc1073741824, zi_neg, zi_add, zi_sub, zi_mul, zl_neg, zl_add, zl_sub, zl_mul, zi_toInt, zi_nat, zi_le, zi_lt, zi_eq, zl_le, zl_lt, zl_eq, zl_toInt, zl_of32, zi_of64, zi_div, zl_div, zmodI, ↓reduceIte, zTle, zFle, zTlt, zFlt, zTeq, zFeq, if_true, if_false, and_self, and_true, true_and, and_false, false_and, or_self, or_true, true_or, or_false, false_or, not_true_eq_false, not_false_eq_true, zcastA, zcastL, znatC, zab, Int.reduceAdd, Int.reduceSub, Int.reduceMul, Int.reduceNeg, Int.reduceToNat, Nat.reduceAdd]
    rw [N]
    simp (disch := omega) only [B_X12_next_136, q, zup_zrw, zbi_some, zbl_some, zbv_some, zbi_none, zbl_none, zbv_none, zbi_ite, zbl_ite, zbv_ite, zbZ, zbO, zc_lt, zc_le, zc_ge, zc_gt, zc_eq, zk0, zk1, zk2, zk3, zk4, zk5, zk6, zk7, zk8, zk9, zk10, zk11, zk12, zk14, zk15, zk16, zk17, zk19, zk20, zk21, zk24, zk25, zk30, zk32, zk36, zk40, zk45, zk50, zk64, zk97, zk99, zk100, zk102, zk122, zk128, zk255, zk800, zk801, zk900, zk999, zk1000, zk1997, zk9999, zk10000, zk100000, zk99999, zk9999999, zk999999999, zk2147483647, zlc0, zlc1, zlc2, zlc3, zlc4, zlc23, zlc99, zlc100, zlc9999999, zlc999999999999, zlc1073741824, zi_neg, zi_add, zi_sub, zi_mul, zl_neg, zl_add, zl_sub, zl_mul, zi_toInt, zi_nat, zi_le, zi_lt, zi_eq, zl_le, zl_lt, zl_eq, zl_toInt, zl_of32, zi_of64, zi_div, zl_div, zmodI, ↓reduceIte, zTle, zFle, zTlt, zFlt, zTeq, zFeq, if_true, if_false, and_self, and_true, true_and, and_false, false_and, or_self, or_true, true_or, or_false, false_or, not_true_eq_false, not_false_eq_true, zcastA, zcastL, znatC, zab, Int.reduceAdd, Int.reduceSub, Int.reduceMul, Int.reduceNeg, Int.reduceToNat, Nat.reduceAdd]
  · refine ⟨upd (upd (upd (R1 r p (g p)) 7 (zi ((p : Int) + (n : Int)))) 10 (zi w)) 9 (zi 2), ?_, rfl, rfl, by rw [if_neg q]; rfl, rfl, fun i i7 i8 i9 i10 => by rw [upd_ne _ _ i9, upd_ne _ _ i10, upd_ne _ _ i7, R1_f i7 i8 i9 i10]⟩
    rw [nx_start d len μ ν g hg e96 L p hL hp hb r e6 e7 v, B_X12_next_92]
    simp (disch := omega) only [c0, zbT, zbi_some, zbl_some, zbv_some, zbi_none, zbl_none, zbv_none, zbi_ite, zbl_ite, zbv_ite, zbZ, zbO, zc_lt, zc_le, zc_ge, zc_gt, zc_eq, zk0, zk1, zk2, zk3, zk4, zk5, zk6, zk7, zk8, zk9, zk10, zk11, zk12, zk14, zk15, zk16, zk17, zk19, zk20, zk21, zk24, zk25, zk30, zk32, zk36, zk40, zk45, zk50, zk64, zk97, zk99, zk100, zk102, zk122, zk128, zk255, zk800, zk801, zk900, zk999, zk1000, zk1997, zk9999, zk10000, zk100000, zk99999, zk9999999, zk999999999, zk2147483647, zlc0, zlc1, zlc2, zlc3, zlc4, zlc23, zlc99, zlc100, zlc9999999, zlc999999999999, zlc1073741824, zi_neg, zi_add, zi_sub, zi_mul, zl_neg, zl_add, zl_sub, zl_mul, zi_toInt, zi_nat, zi_le, zi_lt, zi_eq, zl_le, zl_lt, zl_eq, zl_toInt, zl_of32, zi_of64, zi_div, zl_div, zmodI, ↓reduceIte, zTle, zFle, zTlt, zFlt, zTeq, zFeq, if_true, if_false, and_self, and_true, true_and, and_false, false_and, or_self, or_true, true_or, or_false, false_or, not_true_eq_false, not_false_eq_true, zcastA, zcastL, znatC, zab, Int.reduceAdd, Int.reduceSub, Int.reduceMul, Int.reduceNeg, Int.reduceToNat, Nat.reduceAdd]
    rw [N]
    simp (disch := omega) only [B_X12_next_136, q, zup_zrw, zbi_some, zbl_some, zbv_some, zbi_none, zbl_none, zbv_none, zbi_ite, zbl_ite, zbv_ite, zbZ, zbO, zc_lt, zc_le, zc_ge, zc_gt, zc_eq, zk0, zk1, zk2, zk3, zk4, zk5, zk6, zk7, zk8, zk9, zk10, zk11, zk12, zk14, zk15, zk16, zk17, zk19, zk20, zk21, zk24, zk25, zk30, zk32, zk36, zk40, zk45, zk50, zk64, zk97, zk99, zk100, zk102, zk122, zk128, zk255, zk800, zk801, zk900, zk999, zk1000, zk1997, zk9999, zk10000, zk100000, zk99999, zk9999999, zk999999999, zk2147483647, zlc0, zlc1, zlc2, zlc3, zlc4, zlc23, zlc99, zlc100, zlc9999999, zlc999999999999, zlc1073741824, zi_neg, zi_add, zi_sub, zi_mul, zl_neg, zl_add, zl_sub, zl_mul, zi_toInt, zi_nat, zi_le, zi_lt, zi_eq, zl_le, zl_lt, zl_eq, zl_toInt, zl_of32, zi_of64, zi_div, zl_div, zmodI, ↓reduceIte, zTle, zFle, zTlt, zFlt, zTeq, zFeq, if_true, if_false, and_self, and_true, true_and, and_false, false_and, or_self, or_true, true_or, or_false, false_or, not_true_eq_false, not_false_eq_true, zcastA, zcastL, znatC, zab, Int.reduceAdd, Int.reduceSub, Int.reduceMul, Int.reduceNeg, Int.reduceToNat, Nat.reduceAdd]
theorem nxd (hg : ∀ i, 0 ≤ g i ∧ g i ≤ 255) (e96 : ∀ i, μ 96 i = zi (g i)) (L p n : Nat) (hL : L ≤ 800) (hp : p < L) (hb : g p ≠ 32 ∧ g p ≠ 10) (r : Nat → Int32) (e6 : r 6 = zi (L : Int)) (e7 : r 7 = zi (p : Int)) (v : Value) (hn : 1 ≤ n) (hpn : p + n ≤ L) (h1 : ∀ j, j < n → ccl (g (p + j)) = 1) (h2 : p + n = L ∨ ccl (g (p + n)) ≠ 1) : ∃ r', zE zc_X12_next (zF zT0 (d + 2)) 0 [.ref 92, v] [] (zm len (zrw μ 92 r) ν) = some (.null, zm len (zrw μ 92 r') ν) ∧ r' 7 = zi ((p : Int) + (n : Int)) ∧ r' 8 = zi (p : Int) ∧ r' 9 = zi (if n ≤ 4 then 3 else 1) ∧ (n ≤ 4 → r' 10 = zi (dvl g p n)) ∧ ∀ i, i ≠ 7 → i ≠ 8 → i ≠ 9 → i ≠ 10 → r' i = r i := by
  have c1 : ccl (g p) = 1 := by have := h1 0 (by omega); rw [Nat.add_zero] at this; exact this
  have c1' := ccl_1.mp c1
  have c0 : ¬ ccl (g p) = 0 := by omega
  have b := hg p
  obtain ⟨w, w1, N⟩ := nx_dig d len μ ν g hg e96 L p n hL (R1 r p (g p)) (by rw [R1_f (by decide) (by decide) (by decide) (by decide)]; exact e6) rfl hpn h1 h2 (zi (g p)) (n - 1) 1 (by omega) (g p - 48) (by omega) (fun _ => by show _ = 0 * 10 + (g (p + 0) - 48); rw [Nat.add_zero]; omega)
  have er : upd (upd (R1 r p (g p)) 10 (zi (g p - 48))) 7 (zi ((p : Int) + ((1 : Nat) : Int))) = upd (R1 r p (g p)) 10 (zi (g p - 48)) := upd_idx rfl
  rw [er] at N
  have S : zE zc_X12_next (zF zT0 (d + 2)) 0 [.ref 92, v] [] (zm len (zrw μ 92 r) ν) = zE zc_X12_next (zF zT0 (d + 2)) 171 [.ref 92, .int (zi (g p))] [] (zm len (zrw μ 92 (upd (R1 r p (g p)) 10 (zi (g p - 48)))) ν) := by
    rw [nx_start d len μ ν g hg e96 L p hL hp hb r e6 e7 v, B_X12_next_92]
    simp (disch := omega) only [c0, zbF, F_isDigM, c1, zbT, B_X12_next_160, zq48, zup_zrw, zbi_some, zbl_some, zbv_some, zbi_none, zbl_none, zbv_none, zbi_ite, zbl_ite, zbv_ite, zbZ, zbO, zc_lt, zc_le, zc_ge, zc_gt, zc_eq, zk0, zk1, zk2, zk3, zk4, zk5, zk6, zk7, zk8, zk9, zk10, zk11, zk12, zk14, zk15, zk16, zk17, zk19, zk20, zk21, zk24, zk25, zk30, zk32, zk36, zk40, zk45, zk50, zk64, zk97, zk99, zk100, zk102, zk122, zk128, zk255, zk800, zk801, zk900, zk999, zk1000, zk1997, zk9999, zk10000, zk100000, zk99999, zk9999999, zk999999999, zk2147483647, zlc0, zlc1, zlc2, zlc3, zlc4, zlc23, zlc99, zlc100, zlc9999999, zlc999999999999, zlc1073741824, zi_neg, zi_add, zi_sub, zi_mul, zl_neg, zl_add, zl_sub, zl_mul, zi_toInt, zi_nat, zi_le, zi_lt, zi_eq, zl_le, zl_lt, zl_eq, zl_toInt, zl_of32, zi_of64, zi_div, zl_div, zmodI, ↓reduceIte, zTle, zFle, zTlt, zFlt, zTeq, zFeq, if_true, if_false, and_self, and_true, true_and, and_false, false_and, or_self, or_true, true_or, or_false, false_or, not_true_eq_false, not_false_eq_true, zcastA, zcastL, znatC, zab, Int.reduceAdd, Int.reduceSub, Int.reduceMul, Int.reduceNeg, Int.reduceToNat, Nat.reduceAdd]
  by_cases q : n ≤ 4
  · rw [if_pos (by omega)] at N
    exact ⟨_, S.trans N, rfl, rfl, by rw [if_pos q]; rfl, fun _ => by rw [← w1 q]; rfl, fun i i7 i8 i9 i10 => by rw [upd_ne _ _ i9, upd_ne _ _ i7, upd_ne _ _ i10, R1_f i7 i8 i9 i10]⟩
  · rw [if_neg (by omega)] at N
    exact ⟨_, S.trans N, rfl, rfl, by rw [if_neg q]; rfl, fun z => absurd z q, fun i i7 i8 i9 i10 => by rw [upd_ne _ _ i7, upd_ne _ _ i10, R1_f i7 i8 i9 i10]⟩
theorem nxo (hg : ∀ i, 0 ≤ g i ∧ g i ≤ 255) (e96 : ∀ i, μ 96 i = zi (g i)) (L p : Nat) (hL : L ≤ 800) (hp : p < L) (hb : g p ≠ 32 ∧ g p ≠ 10) (r : Nat → Int32) (e6 : r 6 = zi (L : Int)) (e7 : r 7 = zi (p : Int)) (v : Value) (c0 : ¬ ccl (g p) = 0) (c1 : ¬ ccl (g p) = 1) : ∃ (b : Int) (r' : Nat → Int32), (b = 0 ∨ b = 1) ∧ (b = 1 ↔ mk (g p)) ∧ zE zc_X12_next (zF zT0 (d + 2)) 0 [.ref 92, v] [] (zm len (zrw μ 92 r) ν) = some (.null, zm len (zrw μ 92 r') ν) ∧ r' 7 = zi ((p : Int) + 1) ∧ r' 8 = zi (p : Int) ∧ r' 9 = zi (if b = 1 then 4 else 1) ∧ r' 10 = zi (g p) ∧ ∀ i, i ≠ 7 → i ≠ 8 → i ≠ 9 → i ≠ 10 → r' i = r i := by
  have b := hg p
  obtain ⟨m, m1, m2, m3⟩ := F_isMk (d + 1) len (zrw μ 92 (R1 r p (g p))) ν b
  have S : zE zc_X12_next (zF zT0 (d + 2)) 0 [.ref 92, v] [] (zm len (zrw μ 92 r) ν) = zE zc_X12_next (zF zT0 (d + 2)) 265 [.ref 92, .int (zi (g p))] [.int (zi m)] (zm len (zrw μ 92 (R1 r p (g p))) ν) := by
    rw [nx_start d len μ ν g hg e96 L p hL hp hb r e6 e7 v, B_X12_next_92]
    simp (disch := omega) only [c0, zbF, F_isDigM, c1, B_X12_next_160, m3, zbi_some, zbl_some, zbv_some, zbi_none, zbl_none, zbv_none, zbi_ite, zbl_ite, zbv_ite, zbZ, zbO, zc_lt, zc_le, zc_ge, zc_gt, zc_eq, zk0, zk1, zk2, zk3, zk4, zk5, zk6, zk7, zk8, zk9, zk10, zk11, zk12, zk14, zk15, zk16, zk17, zk19, zk20, zk21, zk24, zk25, zk30, zk32, zk36, zk40, zk45, zk50, zk64, zk97, zk99, zk100, zk102, zk122, zk128, zk255, zk800, zk801, zk900, zk999, zk1000, zk1997, zk9999, zk10000, zk100000, zk99999, zk9999999, zk999999999, zk2147483647, zlc0, zlc1, zlc2, zlc3, zlc4, zlc23, zlc99, zlc100, zlc9999999, zlc999999999999, zlc1073741824, zi_neg, zi_add, zi_sub, zi_mul, zl_neg, zl_add, zl_sub, zl_mul, zi_toInt, zi_nat, zi_le, zi_lt, zi_eq, zl_le, zl_lt, zl_eq, zl_toInt, zl_of32, zi_of64, zi_div, zl_div, zmodI, ↓reduceIte, zTle, zFle, zTlt, zFlt, zTeq, zFeq, if_true, if_false, and_self, and_true, true_and, and_false, false_and, or_self, or_true, true_or, or_false, false_or, not_true_eq_false, not_false_eq_true, zcastA, zcastL, znatC, zab, Int.reduceAdd, Int.reduceSub, Int.reduceMul, Int.reduceNeg, Int.reduceToNat, Nat.reduceAdd]
  rcases m1 with z | z
  · subst z
    refine ⟨0, R1 r p (g p), Or.inl rfl, m2, S.trans ?_, rfl, rfl, rfl, rfl, fun i i7 i8 i9 i10 => R1_f i7 i8 i9 i10⟩
    rw [B_X12_next_265]
    simp (disch := omega) only [zbi_some, zbl_some, zbv_some, zbi_none, zbl_none, zbv_none, zbi_ite, zbl_ite, zbv_ite, zbZ, zbO, zc_lt, zc_le, zc_ge, zc_gt, zc_eq, zk0, zk1, zk2, zk3, zk4, zk5, zk6, zk7, zk8, zk9, zk10, zk11, zk12, zk14, zk15, zk16, zk17, zk19, zk20, zk21, zk24, zk25, zk30, zk32, zk36, zk40, zk45, zk50, zk64, zk97, zk99, zk100, zk102, zk122, zk128, zk255, zk800, zk801, zk900, zk999, zk1000, zk1997, zk9999, zk10000, zk100000, zk99999, zk9999999, zk999999999, zk2147483647, zlc0, zlc1, zlc2, zlc3, zlc4, zlc23, zlc99, zlc100, zlc9999999, zlc999999999999, zlc1073741824, zi_neg, zi_add, zi_sub, zi_mul, zl_neg, zl_add, zl_sub, zl_mul, zi_toInt, zi_nat, zi_le, zi_lt, zi_eq, zl_le, zl_lt, zl_eq, zl_toInt, zl_of32, zi_of64, zi_div, zl_div, zmodI, ↓reduceIte, zTle, zFle, zTlt, zFlt, zTeq, zFeq, if_true, if_false, and_self, and_true, true_and, and_false, false_and, or_self, or_true, true_or, or_false, false_or, not_true_eq_false, not_false_eq_true, zcastA, zcastL, znatC, zab, Int.reduceAdd, Int.reduceSub, Int.reduceMul, Int.reduceNeg, Int.reduceToNat, Nat.reduceAdd]
  · subst z
    refine ⟨1, upd (R1 r p (g p)) 9 (zi 4), Or.inr rfl, m2, S.trans ?_, rfl, rfl, rfl, rfl, fun i i7 i8 i9 i10 => by rw [upd_ne _ _ i9, R1_f i7 i8 i9 i10]⟩
    rw [B_X12_next_265]
    simp (disch := omega) only [zup_zrw, zbi_some, zbl_some, zbv_some, zbi_none, zbl_none, zbv_none, zbi_ite, zbl_ite, zbv_ite, zbZ, zbO, zc_lt, zc_le, zc_ge, zc_gt, zc_eq, zk0, zk1, zk2, zk3, zk4, zk5, zk6, zk7, zk8, zk9, zk10, zk11, zk12, zk14, zk15, zk16, zk17, zk19, zk20, zk21, zk24, zk25, zk30, zk32, zk36, zk40, zk45, zk50, zk64, zk97, zk99, zk100, zk102, zk122, zk128, zk255, zk800, zk801, zk900, zk999, zk1000, zk1997, zk9999, zk10000, zk100000, zk99999, zk9999999, zk999999999, zk2147483647, zlc0, zlc1, zlc2, zlc3, zlc4, zlc23, zlc99, zlc100, zlc9999999, zlc999999999999, zlc1073741824, zi_neg, zi_add, zi_sub, zi_mul, zl_neg, zl_add, zl_sub, zl_mul, zi_toInt, zi_nat, zi_le, zi_lt, zi_eq, zl_le, zl_lt, zl_eq, zl_toInt, zl_of32, zi_of64, zi_div, zl_div, zmodI, ↓reduceIte, zTle, zFle, zTlt, zFlt, zTeq, zFeq, if_true, if_false, and_self, and_true, true_and, and_false, false_and, or_self, or_true, true_or, or_false, false_or, not_true_eq_false, not_false_eq_true, zcastA, zcastL, znatC, zab, Int.reduceAdd, Int.reduceSub, Int.reduceMul, Int.reduceNeg, Int.reduceToNat, Nat.reduceAdd]
end NEXT
theorem tok_ok (g : Nat → Int) (hg : ∀ i, 0 ≤ g i ∧ g i ≤ 255) (L p n : Nat) (hL : L ≤ 800) (hb : g p ≠ 32 ∧ g p ≠ 10) (h : Tlen g L p n) : ∃ ty va : Int, Tok ty va ∧ KC g L p n ty va ∧ KM g L p n ty va := by
  have hsz := fun d len μ ν e7 e1 => F_size d len μ ν g hg e7 L p n hL e1 h
  obtain ⟨h1, h2, h3, h4⟩ := h
  have b := hg p
  have hpL : p < L := by omega
  have cpn : ((p + n : Nat) : Int) = (p : Int) + (n : Int) := by omega
  by_cases c0 : ccl (g p) = 0
  · obtain ⟨x, y⟩ := h4 (by omega)
    rw [c0] at x y
    have hl : ∀ i, i < n → 65 ≤ g (p + i) := fun i hi => by
      have := ccl_0.mp (x i hi)
      omega
    have c1 : ¬ ccl (g p) = 1 := by omega
    have V : ∀ (d len : Nat) (μ : zMu) (ν : zNu), (∀ i, μ 7 i = zi (g i)) → zF zT0 (d + 2) 124 [.ref 6, .int (zi (p : Int)), .int (zi (n : Int))] (zm len μ ν) = some (.int (zi (g p - 97)), zm len μ ν) := fun d len μ ν e7 => by
      rw [B_X10_valueOf]
      simp (disch := omega) only [e7, F_isDigC, c0, zbF, B_X10_valueOf_9, zbi_some, zbl_some, zbv_some, zbi_none, zbl_none, zbv_none, zbi_ite, zbl_ite, zbv_ite, zbZ, zbO, zc_lt, zc_le, zc_ge, zc_gt, zc_eq, zk0, zk1, zk2, zk3, zk4, zk5, zk6, zk7, zk8, zk9, zk10, zk11, zk12, zk14, zk15, zk16, zk17, zk19, zk20, zk21, zk24, zk25, zk30, zk32, zk36, zk40, zk45, zk50, zk64, zk97, zk99, zk100, zk102, zk122, zk128, zk255, zk800, zk801, zk900, zk999, zk1000, zk1997, zk9999, zk10000, zk100000, zk99999, zk9999999, zk999999999, zk2147483647, zlc0, zlc1, zlc2, zlc3, zlc4, zlc23, zlc99, zlc100, zlc9999999, zlc999999999999, zlc1073741824, zi_neg, zi_add, zi_sub, zi_mul, zl_neg, zl_add, zl_sub, zl_mul, zi_toInt, zi_nat, zi_le, zi_lt, zi_eq, zl_le, zl_lt, zl_eq, zl_toInt, zl_of32, zi_of64, zi_div, zl_div, zmodI, ↓reduceIte, zTle, zFle, zTlt, zFlt, zTeq, zFeq, if_true, if_false, and_self, and_true, true_and, and_false, false_and, or_self, or_true, true_or, or_false, false_or, not_true_eq_false, not_false_eq_true, zcastA, zcastL, znatC, zab, Int.reduceAdd, Int.reduceSub, Int.reduceMul, Int.reduceNeg, Int.reduceToNat, Nat.reduceAdd]
    by_cases q : n = 1 ∧ 97 ≤ g p ∧ g p ≤ 102
    · obtain ⟨q1, q2⟩ := q
      subst q1
      refine ⟨3, g p - 97, Or.inr (Or.inr (Or.inl ⟨rfl, by omega, by omega⟩)), fun d len μ ν e7 e1 => ⟨hsz d len μ ν e7 e1, ?_, g p - 97, fun _ => rfl, V d len μ ν e7⟩, fun d len μ ν r v e96 e97 r6 r7 => ?_⟩
      · rw [B_X10_kindOf]
        simp (disch := omega) only [e7, F_isDigC, F_isLetC, c0, zbT, zbF, B_X10_kindOf_11, B_X10_kindOf_29, B_X10_kindOf_59, zbi_some, zbl_some, zbv_some, zbi_none, zbl_none, zbv_none, zbi_ite, zbl_ite, zbv_ite, zbZ, zbO, zc_lt, zc_le, zc_ge, zc_gt, zc_eq, zk0, zk1, zk2, zk3, zk4, zk5, zk6, zk7, zk8, zk9, zk10, zk11, zk12, zk14, zk15, zk16, zk17, zk19, zk20, zk21, zk24, zk25, zk30, zk32, zk36, zk40, zk45, zk50, zk64, zk97, zk99, zk100, zk102, zk122, zk128, zk255, zk800, zk801, zk900, zk999, zk1000, zk1997, zk9999, zk10000, zk100000, zk99999, zk9999999, zk999999999, zk2147483647, zlc0, zlc1, zlc2, zlc3, zlc4, zlc23, zlc99, zlc100, zlc9999999, zlc999999999999, zlc1073741824, zi_neg, zi_add, zi_sub, zi_mul, zl_neg, zl_add, zl_sub, zl_mul, zi_toInt, zi_nat, zi_le, zi_lt, zi_eq, zl_le, zl_lt, zl_eq, zl_toInt, zl_of32, zi_of64, zi_div, zl_div, zmodI, ↓reduceIte, zTle, zFle, zTlt, zFlt, zTeq, zFeq, if_true, if_false, and_self, and_true, true_and, and_false, false_and, or_self, or_true, true_or, or_false, false_or, not_true_eq_false, not_false_eq_true, zcastA, zcastL, znatC, zab, Int.reduceAdd, Int.reduceSub, Int.reduceMul, Int.reduceNeg, Int.reduceToNat, Nat.reduceAdd]
        rfl
      · obtain ⟨r', s1, s2, s3, s4, s5, s6⟩ := nxl d len μ ν g hg e96 L p 1 hL hpL hb r r6 r7 v h1 h2 x y (g p - 92) (by omega) (fun r => letter_ok g hg p (by omega) q2 (d + 1) len (zrw μ 92 r) ν e96 e97)
        refine ⟨r', s1, by rw [cpn]; exact s2, s3, ?_, fun _ => ?_, s6⟩
        · rw [s4, if_neg (by omega)]
          rfl
        · rw [s5]
          show zi (g p - 92) = zi (g p - 97 + 5)
          rw [show g p - 97 + 5 = g p - 92 by omega]
    · obtain ⟨w, w0, w1, w2⟩ := words_ok g hg p n hl (by omega) q
      have K : ∀ (d len : Nat) (μ : zMu) (ν : zNu), (∀ i, μ 7 i = zi (g i)) → zF zT0 (d + 7) 123 [.ref 6, .int (zi (p : Int)), .int (zi (n : Int))] (zm len μ ν) = some (.int (zi (if w = -1 then 1 else if w ≤ 4 then 128 + w else 122 + w)), zm len μ ν) := fun d len μ ν e7 => by
        have W := w1 d len μ ν e7
        rw [B_X10_kindOf]
        by_cases z : n = 1
        · have q' : ¬ (97 ≤ g p ∧ g p ≤ 102) := fun u => q ⟨z, u⟩
          subst z
          have W : zF zT0 (d + 6) 125 [.ref 6, .int (zi (p : Int)), .int (zi 1)] (zm len μ ν) = some (.int (zi (if w = -1 then 1 else if w ≤ 4 then 128 + w else 122 + w)), zm len μ ν) := W
          by_cases u : g p < 97
          · simp (disch := omega) only [e7, F_isDigC, F_isLetC, c0, zbT, zbF, B_X10_kindOf_11, B_X10_kindOf_29, zbi_some, zbl_some, zbv_some, zbi_none, zbl_none, zbv_none, zbi_ite, zbl_ite, zbv_ite, zbZ, zbO, zc_lt, zc_le, zc_ge, zc_gt, zc_eq, zk0, zk1, zk2, zk3, zk4, zk5, zk6, zk7, zk8, zk9, zk10, zk11, zk12, zk14, zk15, zk16, zk17, zk19, zk20, zk21, zk24, zk25, zk30, zk32, zk36, zk40, zk45, zk50, zk64, zk97, zk99, zk100, zk102, zk122, zk128, zk255, zk800, zk801, zk900, zk999, zk1000, zk1997, zk9999, zk10000, zk100000, zk99999, zk9999999, zk999999999, zk2147483647, zlc0, zlc1, zlc2, zlc3, zlc4, zlc23, zlc99, zlc100, zlc9999999, zlc999999999999, zlc1073741824, zi_neg, zi_add, zi_sub, zi_mul, zl_neg, zl_add, zl_sub, zl_mul, zi_toInt, zi_nat, zi_le, zi_lt, zi_eq, zl_le, zl_lt, zl_eq, zl_toInt, zl_of32, zi_of64, zi_div, zl_div, zmodI, ↓reduceIte, zTle, zFle, zTlt, zFlt, zTeq, zFeq, if_true, if_false, and_self, and_true, true_and, and_false, false_and, or_self, or_true, true_or, or_false, false_or, not_true_eq_false, not_false_eq_true, zcastA, zcastL, znatC, zab, Int.reduceAdd, Int.reduceSub, Int.reduceMul, Int.reduceNeg, Int.reduceToNat, Nat.reduceAdd]
            rw [W]
            simp (disch := omega) only [B_X10_kindOf_59, zbi_some, zbl_some, zbv_some, zbi_none, zbl_none, zbv_none, zbi_ite, zbl_ite, zbv_ite, zbZ, zbO, zc_lt, zc_le, zc_ge, zc_gt, zc_eq, zk0, zk1, zk2, zk3, zk4, zk5, zk6, zk7, zk8, zk9, zk10, zk11, zk12, zk14, zk15, zk16, zk17, zk19, zk20, zk21, zk24, zk25, zk30, zk32, zk36, zk40, zk45, zk50, zk64, zk97, zk99, zk100, zk102, zk122, zk128, zk255, zk800, zk801, zk900, zk999, zk1000, zk1997, zk9999, zk10000, zk100000, zk99999, zk9999999, zk999999999, zk2147483647, zlc0, zlc1, zlc2, zlc3, zlc4, zlc23, zlc99, zlc100, zlc9999999, zlc999999999999, zlc1073741824, zi_neg, zi_add, zi_sub, zi_mul, zl_neg, zl_add, zl_sub, zl_mul, zi_toInt, zi_nat, zi_le, zi_lt, zi_eq, zl_le, zl_lt, zl_eq, zl_toInt, zl_of32, zi_of64, zi_div, zl_div, zmodI, ↓reduceIte, zTle, zFle, zTlt, zFlt, zTeq, zFeq, if_true, if_false, and_self, and_true, true_and, and_false, false_and, or_self, or_true, true_or, or_false, false_or, not_true_eq_false, not_false_eq_true, zcastA, zcastL, znatC, zab, Int.reduceAdd, Int.reduceSub, Int.reduceMul, Int.reduceNeg, Int.reduceToNat, Nat.reduceAdd]
          · simp (disch := omega) only [e7, F_isDigC, F_isLetC, c0, zbT, zbF, B_X10_kindOf_11, B_X10_kindOf_29, zbi_some, zbl_some, zbv_some, zbi_none, zbl_none, zbv_none, zbi_ite, zbl_ite, zbv_ite, zbZ, zbO, zc_lt, zc_le, zc_ge, zc_gt, zc_eq, zk0, zk1, zk2, zk3, zk4, zk5, zk6, zk7, zk8, zk9, zk10, zk11, zk12, zk14, zk15, zk16, zk17, zk19, zk20, zk21, zk24, zk25, zk30, zk32, zk36, zk40, zk45, zk50, zk64, zk97, zk99, zk100, zk102, zk122, zk128, zk255, zk800, zk801, zk900, zk999, zk1000, zk1997, zk9999, zk10000, zk100000, zk99999, zk9999999, zk999999999, zk2147483647, zlc0, zlc1, zlc2, zlc3, zlc4, zlc23, zlc99, zlc100, zlc9999999, zlc999999999999, zlc1073741824, zi_neg, zi_add, zi_sub, zi_mul, zl_neg, zl_add, zl_sub, zl_mul, zi_toInt, zi_nat, zi_le, zi_lt, zi_eq, zl_le, zl_lt, zl_eq, zl_toInt, zl_of32, zi_of64, zi_div, zl_div, zmodI, ↓reduceIte, zTle, zFle, zTlt, zFlt, zTeq, zFeq, if_true, if_false, and_self, and_true, true_and, and_false, false_and, or_self, or_true, true_or, or_false, false_or, not_true_eq_false, not_false_eq_true, zcastA, zcastL, znatC, zab, Int.reduceAdd, Int.reduceSub, Int.reduceMul, Int.reduceNeg, Int.reduceToNat, Nat.reduceAdd]
            rw [W]
            simp (disch := omega) only [B_X10_kindOf_59, zbi_some, zbl_some, zbv_some, zbi_none, zbl_none, zbv_none, zbi_ite, zbl_ite, zbv_ite, zbZ, zbO, zc_lt, zc_le, zc_ge, zc_gt, zc_eq, zk0, zk1, zk2, zk3, zk4, zk5, zk6, zk7, zk8, zk9, zk10, zk11, zk12, zk14, zk15, zk16, zk17, zk19, zk20, zk21, zk24, zk25, zk30, zk32, zk36, zk40, zk45, zk50, zk64, zk97, zk99, zk100, zk102, zk122, zk128, zk255, zk800, zk801, zk900, zk999, zk1000, zk1997, zk9999, zk10000, zk100000, zk99999, zk9999999, zk999999999, zk2147483647, zlc0, zlc1, zlc2, zlc3, zlc4, zlc23, zlc99, zlc100, zlc9999999, zlc999999999999, zlc1073741824, zi_neg, zi_add, zi_sub, zi_mul, zl_neg, zl_add, zl_sub, zl_mul, zi_toInt, zi_nat, zi_le, zi_lt, zi_eq, zl_le, zl_lt, zl_eq, zl_toInt, zl_of32, zi_of64, zi_div, zl_div, zmodI, ↓reduceIte, zTle, zFle, zTlt, zFlt, zTeq, zFeq, if_true, if_false, and_self, and_true, true_and, and_false, false_and, or_self, or_true, true_or, or_false, false_or, not_true_eq_false, not_false_eq_true, zcastA, zcastL, znatC, zab, Int.reduceAdd, Int.reduceSub, Int.reduceMul, Int.reduceNeg, Int.reduceToNat, Nat.reduceAdd]
        · have z' : ¬ (n : Int) = 1 := by omega
          simp (disch := omega) only [e7, F_isDigC, F_isLetC, c0, zbT, zbF, B_X10_kindOf_11, B_X10_kindOf_29, z', zbi_some, zbl_some, zbv_some, zbi_none, zbl_none, zbv_none, zbi_ite, zbl_ite, zbv_ite, zbZ, zbO, zc_lt, zc_le, zc_ge, zc_gt, zc_eq, zk0, zk1, zk2, zk3, zk4, zk5, zk6, zk7, zk8, zk9, zk10, zk11, zk12, zk14, zk15, zk16, zk17, zk19, zk20, zk21, zk24, zk25, zk30, zk32, zk36, zk40, zk45, zk50, zk64, zk97, zk99, zk100, zk102, zk122, zk128, zk255, zk800, zk801, zk900, zk999, zk1000, zk1997, zk9999, zk10000, zk100000, zk99999, zk9999999, zk999999999, zk2147483647, zlc0, zlc1, zlc2, zlc3, zlc4, zlc23, zlc99, zlc100, zlc9999999, zlc999999999999, zlc1073741824, zi_neg, zi_add, zi_sub, zi_mul, zl_neg, zl_add, zl_sub, zl_mul, zi_toInt, zi_nat, zi_le, zi_lt, zi_eq, zl_le, zl_lt, zl_eq, zl_toInt, zl_of32, zi_of64, zi_div, zl_div, zmodI, ↓reduceIte, zTle, zFle, zTlt, zFlt, zTeq, zFeq, if_true, if_false, and_self, and_true, true_and, and_false, false_and, or_self, or_true, true_or, or_false, false_or, not_true_eq_false, not_false_eq_true, zcastA, zcastL, znatC, zab, Int.reduceAdd, Int.reduceSub, Int.reduceMul, Int.reduceNeg, Int.reduceToNat, Nat.reduceAdd]
          rw [W]
          simp (disch := omega) only [B_X10_kindOf_59, zbi_some, zbl_some, zbv_some, zbi_none, zbl_none, zbv_none, zbi_ite, zbl_ite, zbv_ite, zbZ, zbO, zc_lt, zc_le, zc_ge, zc_gt, zc_eq, zk0, zk1, zk2, zk3, zk4, zk5, zk6, zk7, zk8, zk9, zk10, zk11, zk12, zk14, zk15, zk16, zk17, zk19, zk20, zk21, zk24, zk25, zk30, zk32, zk36, zk40, zk45, zk50, zk64, zk97, zk99, zk100, zk102, zk122, zk128, zk255, zk800, zk801, zk900, zk999, zk1000, zk1997, zk9999, zk10000, zk100000, zk99999, zk9999999, zk999999999, zk2147483647, zlc0, zlc1, zlc2, zlc3, zlc4, zlc23, zlc99, zlc100, zlc9999999, zlc999999999999, zlc1073741824, zi_neg, zi_add, zi_sub, zi_mul, zl_neg, zl_add, zl_sub, zl_mul, zi_toInt, zi_nat, zi_le, zi_lt, zi_eq, zl_le, zl_lt, zl_eq, zl_toInt, zl_of32, zi_of64, zi_div, zl_div, zmodI, ↓reduceIte, zTle, zFle, zTlt, zFlt, zTeq, zFeq, if_true, if_false, and_self, and_true, true_and, and_false, false_and, or_self, or_true, true_or, or_false, false_or, not_true_eq_false, not_false_eq_true, zcastA, zcastL, znatC, zab, Int.reduceAdd, Int.reduceSub, Int.reduceMul, Int.reduceNeg, Int.reduceToNat, Nat.reduceAdd]
      have N : ∀ (d len : Nat) (μ : zMu) (ν : zNu) (r : Nat → Int32) (v : Value), (∀ i, μ 96 i = zi (g i)) → (∀ i : Nat, i < 80 → μ 97 i = zi (mch i)) → r 6 = zi (L : Int) → r 7 = zi (p : Int) → ∃ r', zE zc_X12_next (zF zT0 (d + 2)) 0 [.ref 92, v] [] (zm len (zrw μ 92 r) ν) = some (.null, zm len (zrw μ 92 r') ν) ∧ r' 7 = zi ((p : Int) + (n : Int)) ∧ r' 8 = zi (p : Int) ∧ r' 9 = zi (if w = -1 then 1 else 2) ∧ r' 10 = zi w ∧ ∀ i, i ≠ 7 → i ≠ 8 → i ≠ 9 → i ≠ 10 → r' i = r i := fun d len μ ν r v e96 e97 r6 r7 => nxl d len μ ν g hg e96 L p n hL hpL hb r r6 r7 v h1 h2 x y w (by omega) (fun r => w2 (d + 1) len (zrw μ 92 r) ν e96 e97)
      by_cases z : w = -1
      · refine ⟨1, 0, Or.inl rfl, fun d len μ ν e7 e1 => ⟨hsz d len μ ν e7 e1, ?_, g p - 97, fun u => by omega, V d len μ ν e7⟩, fun d len μ ν r v e96 e97 r6 r7 => ?_⟩
        · rw [K d len μ ν e7, if_pos z]
          rfl
        · obtain ⟨r', s1, s2, s3, s4, s5, s6⟩ := N d len μ ν r v e96 e97 r6 r7
          exact ⟨r', s1, by rw [cpn]; exact s2, s3, by rw [s4, if_pos z]; rfl, fun u => by omega, s6⟩
      · refine ⟨4, w, Or.inr (Or.inr (Or.inr (Or.inl ⟨rfl, by omega⟩))), fun d len μ ν e7 e1 => ⟨hsz d len μ ν e7 e1, ?_, g p - 97, fun u => by omega, V d len μ ν e7⟩, fun d len μ ν r v e96 e97 r6 r7 => ?_⟩
        · rw [K d len μ ν e7, if_neg z]
          rfl
        · obtain ⟨r', s1, s2, s3, s4, s5, s6⟩ := N d len μ ν r v e96 e97 r6 r7
          exact ⟨r', s1, by rw [cpn]; exact s2, s3, by rw [s4, if_neg z]; rfl, fun u => by rw [s5]; rfl, s6⟩
  · by_cases c1 : ccl (g p) = 1
    · obtain ⟨x, y⟩ := h4 (by omega)
      rw [c1] at x y
      have V : ∀ (d len : Nat) (μ : zMu) (ν : zNu), (∀ i, μ 7 i = zi (g i)) → zF zT0 (d + 2) 124 [.ref 6, .int (zi (p : Int)), .int (zi (n : Int))] (zm len μ ν) = some (.int (zi (dvl g p (min n 4))), zm len μ ν) := fun d len μ ν e7 => by
        rw [B_X10_valueOf]
        simp (disch := omega) only [e7, F_isDigC, c1, zbT, B_X10_valueOf_9, zbi_some, zbl_some, zbv_some, zbi_none, zbl_none, zbv_none, zbi_ite, zbl_ite, zbv_ite, zbZ, zbO, zc_lt, zc_le, zc_ge, zc_gt, zc_eq, zk0, zk1, zk2, zk3, zk4, zk5, zk6, zk7, zk8, zk9, zk10, zk11, zk12, zk14, zk15, zk16, zk17, zk19, zk20, zk21, zk24, zk25, zk30, zk32, zk36, zk40, zk45, zk50, zk64, zk97, zk99, zk100, zk102, zk122, zk128, zk255, zk800, zk801, zk900, zk999, zk1000, zk1997, zk9999, zk10000, zk100000, zk99999, zk9999999, zk999999999, zk2147483647, zlc0, zlc1, zlc2, zlc3, zlc4, zlc23, zlc99, zlc100, zlc9999999, zlc999999999999, zlc1073741824, zi_neg, zi_add, zi_sub, zi_mul, zl_neg, zl_add, zl_sub, zl_mul, zi_toInt, zi_nat, zi_le, zi_lt, zi_eq, zl_le, zl_lt, zl_eq, zl_toInt, zl_of32, zi_of64, zi_div, zl_div, zmodI, ↓reduceIte, zTle, zFle, zTlt, zFlt, zTeq, zFeq, if_true, if_false, and_self, and_true, true_and, and_false, false_and, or_self, or_true, true_or, or_false, false_or, not_true_eq_false, not_false_eq_true, zcastA, zcastL, znatC, zab, Int.reduceAdd, Int.reduceSub, Int.reduceMul, Int.reduceNeg, Int.reduceToNat, Nat.reduceAdd]
        exact val_c len μ ν g hg e7 (zF zT0 (d + 1)) p n (by omega) (min n 4) 0 (by omega)
      have D := dvl_r g p (min n 4) (fun j hj => ccl_1.mp (x j (by omega))) (by omega)
      have D2 : 0 ≤ dvl g p (min n 4) ∧ dvl g p (min n 4) ≤ 9999 := by
        refine ⟨D.1, ?_⟩
        have := D.2
        split at this
        · omega
        · split at this
          · omega
          · split at this
            · omega
            · split at this <;> omega
      by_cases q : n ≤ 4
      · have e : min n 4 = n := by omega
        rw [e] at V D2
        have q' : (n : Int) ≤ 4 := by omega
        refine ⟨2, dvl g p n, Or.inr (Or.inl ⟨rfl, D2⟩), fun d len μ ν e7 e1 => ⟨hsz d len μ ν e7 e1, ?_, _, fun _ => rfl, V d len μ ν e7⟩, fun d len μ ν r v e96 e97 r6 r7 => ?_⟩
        · rw [B_X10_kindOf]
          simp (disch := omega) only [e7, F_isDigC, c1, zbT, B_X10_kindOf_11, zbi_some, zbl_some, zbv_some, zbi_none, zbl_none, zbv_none, zbi_ite, zbl_ite, zbv_ite, zbZ, zbO, zc_lt, zc_le, zc_ge, zc_gt, zc_eq, zk0, zk1, zk2, zk3, zk4, zk5, zk6, zk7, zk8, zk9, zk10, zk11, zk12, zk14, zk15, zk16, zk17, zk19, zk20, zk21, zk24, zk25, zk30, zk32, zk36, zk40, zk45, zk50, zk64, zk97, zk99, zk100, zk102, zk122, zk128, zk255, zk800, zk801, zk900, zk999, zk1000, zk1997, zk9999, zk10000, zk100000, zk99999, zk9999999, zk999999999, zk2147483647, zlc0, zlc1, zlc2, zlc3, zlc4, zlc23, zlc99, zlc100, zlc9999999, zlc999999999999, zlc1073741824, zi_neg, zi_add, zi_sub, zi_mul, zl_neg, zl_add, zl_sub, zl_mul, zi_toInt, zi_nat, zi_le, zi_lt, zi_eq, zl_le, zl_lt, zl_eq, zl_toInt, zl_of32, zi_of64, zi_div, zl_div, zmodI, ↓reduceIte, zTle, zFle, zTlt, zFlt, zTeq, zFeq, if_true, if_false, and_self, and_true, true_and, and_false, false_and, or_self, or_true, true_or, or_false, false_or, not_true_eq_false, not_false_eq_true, zcastA, zcastL, znatC, zab, Int.reduceAdd, Int.reduceSub, Int.reduceMul, Int.reduceNeg, Int.reduceToNat, Nat.reduceAdd]
          rfl
        · obtain ⟨r', s1, s2, s3, s4, s5, s6⟩ := nxd d len μ ν g hg e96 L p n hL hpL hb r r6 r7 v h1 h2 x y
          exact ⟨r', s1, by rw [cpn]; exact s2, s3, by rw [s4, if_pos q]; rfl, fun _ => s5 q, s6⟩
      · have q' : ¬ (n : Int) ≤ 4 := by omega
        refine ⟨1, 0, Or.inl rfl, fun d len μ ν e7 e1 => ⟨hsz d len μ ν e7 e1, ?_, _, fun u => by omega, V d len μ ν e7⟩, fun d len μ ν r v e96 e97 r6 r7 => ?_⟩
        · rw [B_X10_kindOf]
          simp (disch := omega) only [e7, F_isDigC, c1, zbT, B_X10_kindOf_11, zbi_some, zbl_some, zbv_some, zbi_none, zbl_none, zbv_none, zbi_ite, zbl_ite, zbv_ite, zbZ, zbO, zc_lt, zc_le, zc_ge, zc_gt, zc_eq, zk0, zk1, zk2, zk3, zk4, zk5, zk6, zk7, zk8, zk9, zk10, zk11, zk12, zk14, zk15, zk16, zk17, zk19, zk20, zk21, zk24, zk25, zk30, zk32, zk36, zk40, zk45, zk50, zk64, zk97, zk99, zk100, zk102, zk122, zk128, zk255, zk800, zk801, zk900, zk999, zk1000, zk1997, zk9999, zk10000, zk100000, zk99999, zk9999999, zk999999999, zk2147483647, zlc0, zlc1, zlc2, zlc3, zlc4, zlc23, zlc99, zlc100, zlc9999999, zlc999999999999, zlc1073741824, zi_neg, zi_add, zi_sub, zi_mul, zl_neg, zl_add, zl_sub, zl_mul, zi_toInt, zi_nat, zi_le, zi_lt, zi_eq, zl_le, zl_lt, zl_eq, zl_toInt, zl_of32, zi_of64, zi_div, zl_div, zmodI, ↓reduceIte, zTle, zFle, zTlt, zFlt, zTeq, zFeq, if_true, if_false, and_self, and_true, true_and, and_false, false_and, or_self, or_true, true_or, or_false, false_or, not_true_eq_false, not_false_eq_true, zcastA, zcastL, znatC, zab, Int.reduceAdd, Int.reduceSub, Int.reduceMul, Int.reduceNeg, Int.reduceToNat, Nat.reduceAdd]
          rfl
        · obtain ⟨r', s1, s2, s3, s4, s5, s6⟩ := nxd d len μ ν g hg e96 L p n hL hpL hb r r6 r7 v h1 h2 x y
          exact ⟨r', s1, by rw [cpn]; exact s2, s3, by rw [s4, if_neg q]; rfl, fun u => by omega, s6⟩
    · have c2 : ccl (g p) = 2 := ccl_2 c0 c1
      have := h3 c2
      subst this
      have V : ∀ (d len : Nat) (μ : zMu) (ν : zNu), (∀ i, μ 7 i = zi (g i)) → zF zT0 (d + 2) 124 [.ref 6, .int (zi (p : Int)), .int (zi ((1 : Nat) : Int))] (zm len μ ν) = some (.int (zi (g p - 97)), zm len μ ν) := fun d len μ ν e7 => by
        rw [B_X10_valueOf]
        simp (disch := omega) only [e7, F_isDigC, c1, zbF, B_X10_valueOf_9, zbi_some, zbl_some, zbv_some, zbi_none, zbl_none, zbv_none, zbi_ite, zbl_ite, zbv_ite, zbZ, zbO, zc_lt, zc_le, zc_ge, zc_gt, zc_eq, zk0, zk1, zk2, zk3, zk4, zk5, zk6, zk7, zk8, zk9, zk10, zk11, zk12, zk14, zk15, zk16, zk17, zk19, zk20, zk21, zk24, zk25, zk30, zk32, zk36, zk40, zk45, zk50, zk64, zk97, zk99, zk100, zk102, zk122, zk128, zk255, zk800, zk801, zk900, zk999, zk1000, zk1997, zk9999, zk10000, zk100000, zk99999, zk9999999, zk999999999, zk2147483647, zlc0, zlc1, zlc2, zlc3, zlc4, zlc23, zlc99, zlc100, zlc9999999, zlc999999999999, zlc1073741824, zi_neg, zi_add, zi_sub, zi_mul, zl_neg, zl_add, zl_sub, zl_mul, zi_toInt, zi_nat, zi_le, zi_lt, zi_eq, zl_le, zl_lt, zl_eq, zl_toInt, zl_of32, zi_of64, zi_div, zl_div, zmodI, ↓reduceIte, zTle, zFle, zTlt, zFlt, zTeq, zFeq, if_true, if_false, and_self, and_true, true_and, and_false, false_and, or_self, or_true, true_or, or_false, false_or, not_true_eq_false, not_false_eq_true, zcastA, zcastL, znatC, zab, Int.reduceAdd, Int.reduceSub, Int.reduceMul, Int.reduceNeg, Int.reduceToNat, Nat.reduceAdd]
      by_cases q : mk (g p)
      · refine ⟨5, g p, Or.inr (Or.inr (Or.inr (Or.inr ⟨rfl, q⟩))), fun d len μ ν e7 e1 => ⟨hsz d len μ ν e7 e1, ?_, _, fun u => by omega, V d len μ ν e7⟩, fun d len μ ν r v e96 e97 r6 r7 => ?_⟩
        · obtain ⟨y, y1, y2, y3⟩ := F_idx (d + 1) len μ ν b
          have y4 : ¬ y = -1 := fun z => y2.mp z q
          rw [B_X10_kindOf]
          simp (disch := omega) only [e7, F_isDigC, F_isLetC, c0, c1, zbF, B_X10_kindOf_11, B_X10_kindOf_29, y3, B_X10_kindOf_66, zbi_some, zbl_some, zbv_some, zbi_none, zbl_none, zbv_none, zbi_ite, zbl_ite, zbv_ite, zbZ, zbO, zc_lt, zc_le, zc_ge, zc_gt, zc_eq, zk0, zk1, zk2, zk3, zk4, zk5, zk6, zk7, zk8, zk9, zk10, zk11, zk12, zk14, zk15, zk16, zk17, zk19, zk20, zk21, zk24, zk25, zk30, zk32, zk36, zk40, zk45, zk50, zk64, zk97, zk99, zk100, zk102, zk122, zk128, zk255, zk800, zk801, zk900, zk999, zk1000, zk1997, zk9999, zk10000, zk100000, zk99999, zk9999999, zk999999999, zk2147483647, zlc0, zlc1, zlc2, zlc3, zlc4, zlc23, zlc99, zlc100, zlc9999999, zlc999999999999, zlc1073741824, zi_neg, zi_add, zi_sub, zi_mul, zl_neg, zl_add, zl_sub, zl_mul, zi_toInt, zi_nat, zi_le, zi_lt, zi_eq, zl_le, zl_lt, zl_eq, zl_toInt, zl_of32, zi_of64, zi_div, zl_div, zmodI, ↓reduceIte, zTle, zFle, zTlt, zFlt, zTeq, zFeq, if_true, if_false, and_self, and_true, true_and, and_false, false_and, or_self, or_true, true_or, or_false, false_or, not_true_eq_false, not_false_eq_true, zcastA, zcastL, znatC, zab, Int.reduceAdd, Int.reduceSub, Int.reduceMul, Int.reduceNeg, Int.reduceToNat, Nat.reduceAdd]
          rfl
        · obtain ⟨m, r', m1, m2, s1, s2, s3, s4, s5, s6⟩ := nxo d len μ ν g hg e96 L p hL hpL hb r r6 r7 v c0 c1
          exact ⟨r', s1, by rw [cpn]; exact s2, s3, by rw [s4, if_pos (m2.mpr q)]; rfl, fun _ => s5, s6⟩
      · refine ⟨1, 0, Or.inl rfl, fun d len μ ν e7 e1 => ⟨hsz d len μ ν e7 e1, ?_, _, fun u => by omega, V d len μ ν e7⟩, fun d len μ ν r v e96 e97 r6 r7 => ?_⟩
        · obtain ⟨y, y1, y2, y3⟩ := F_idx (d + 1) len μ ν b
          have y4 : y = -1 := y2.mpr q
          rw [B_X10_kindOf]
          simp (disch := omega) only [e7, F_isDigC, F_isLetC, c0, c1, zbF, B_X10_kindOf_11, B_X10_kindOf_29, y3, y4, B_X10_kindOf_66, zbi_some, zbl_some, zbv_some, zbi_none, zbl_none, zbv_none, zbi_ite, zbl_ite, zbv_ite, zbZ, zbO, zc_lt, zc_le, zc_ge, zc_gt, zc_eq, zk0, zk1, zk2, zk3, zk4, zk5, zk6, zk7, zk8, zk9, zk10, zk11, zk12, zk14, zk15, zk16, zk17, zk19, zk20, zk21, zk24, zk25, zk30, zk32, zk36, zk40, zk45, zk50, zk64, zk97, zk99, zk100, zk102, zk122, zk128, zk255, zk800, zk801, zk900, zk999, zk1000, zk1997, zk9999, zk10000, zk100000, zk99999, zk9999999, zk999999999, zk2147483647, zlc0, zlc1, zlc2, zlc3, zlc4, zlc23, zlc99, zlc100, zlc9999999, zlc999999999999, zlc1073741824, zi_neg, zi_add, zi_sub, zi_mul, zl_neg, zl_add, zl_sub, zl_mul, zi_toInt, zi_nat, zi_le, zi_lt, zi_eq, zl_le, zl_lt, zl_eq, zl_toInt, zl_of32, zi_of64, zi_div, zl_div, zmodI, ↓reduceIte, zTle, zFle, zTlt, zFlt, zTeq, zFeq, if_true, if_false, and_self, and_true, true_and, and_false, false_and, or_self, or_true, true_or, or_false, false_or, not_true_eq_false, not_false_eq_true, zcastA, zcastL, znatC, zab, Int.reduceAdd, Int.reduceSub, Int.reduceMul, Int.reduceNeg, Int.reduceToNat, Nat.reduceAdd]
          rfl
        · obtain ⟨m, r', m1, m2, s1, s2, s3, s4, s5, s6⟩ := nxo d len μ ν g hg e96 L p hL hpL hb r r6 r7 v c0 c1
          exact ⟨r', s1, by rw [cpn]; exact s2, s3, by rw [s4, if_neg (fun z => q (m2.mp z))]; rfl, fun u => by omega, s6⟩

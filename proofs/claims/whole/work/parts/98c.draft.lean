/-! TABLET read: the class's draft -/
def mL (ms : List (Nat × Int × Int)) (j : Nat) : Int := match ms[j]? with
  | some p => (p.1 : Int)
  | none => -1
def mU (ms : List (Nat × Int × Int)) (j : Nat) : Int := match ms[j]? with
  | some p => p.2.1
  | none => 0
def mW (ms : List (Nat × Int × Int)) (j : Nat) : Int := match ms[j]? with
  | some p => p.2.2
  | none => 0
def Mrow (ms : List (Nat × Int × Int)) (X : zMu) (b : Nat) : Prop := ms.length ≤ 2 ∧ X 23 b = zi (ms.length : Int) ∧ ∀ j, j < 2 → X 24 (2 * b + j) = zi (mL ms j) ∧ X 25 (2 * b + j) = zi (mU ms j) ∧ X 26 (2 * b + j) = zi (mW ms j)
def Dlin (X : zMu) (ln : Nat → Ln) (i : Nat) : Prop := X 12 i = zi (ln i).1 ∧ X 13 i = zi (ln i).2.1 ∧ X 14 i = zi (ln i).2.2.2.1 ∧ X 17 i = zi (bkF ln i : Int)
def Dblk (X : zMu) (ln : Nat → Ln) (b nT nM : Nat) : Prop := X 19 b = zi (clF ln b nT) ∧ X 20 b = zi (toF ln b nT) ∧ X 22 b = zi (loF ln b nM) ∧ Mrow (mkF ln b nM) X b
def DBd (X : zMu) (ln : Nat → Ln) (n : Nat) : Prop := X 11 2 = zi (n : Int) ∧ (∀ i, i < n → Dlin X ln i) ∧ (∀ g : Nat, g < 8 → X 18 g = zi (obF ln n (g : Int))) ∧ ∀ b, b < n → bkF ln b = b → Dblk X ln b n n
def DMd (X : zMu) (ln : Nat → Ln) (n : Nat) : Prop := X 11 2 = zi (n : Int) ∧ (∀ i, i ≤ n → Dlin X ln i) ∧ (∀ g : Nat, g < 8 → X 18 g = zi (if (g : Int) = (ln n).2.1 then (bkF ln n : Int) else obF ln n (g : Int))) ∧ ∀ b, b ≤ n → bkF ln b = b → Dblk X ln b n (n + 1)
def setL (ln : Nat → Ln) (n : Nat) (x : Ln) : Nat → Ln := fun i => if i = n then x else ln i
theorem setL_n (ln : Nat → Ln) (n : Nat) (x : Ln) : setL ln n x n = x := if_pos rfl
theorem setL_o (ln : Nat → Ln) {n i : Nat} (x : Ln) (h : i ≠ n) : setL ln n x i = ln i := if_neg h
def frD (X X' : zMu) : Prop := ∀ r, (r < 11 ∨ 26 < r) → X' r = X r
theorem frD_up {X X' : zMu} {r i : Nat} {v : Int32} (h : frD X X') (hr : 11 ≤ r ∧ r ≤ 26) : frD X (zup X' r i v) := fun j hj => by
  rw [zup_ne _ _ _ (show j ≠ r by omega)]
  exact h j hj
theorem frD_rf (X : zMu) : frD X X := fun _ _ => rfl
theorem frD_tr {X X' X'' : zMu} (h : frD X X') (h2 : frD X' X'') : frD X X'' := fun r hr => by rw [h2 r hr, h r hr]
theorem mkF_S (ln : Nat → Ln) (b n : Nat) : mkF ln b (n + 1) = mkF ln b n ++ (if bkF ln n = b then (ln n).2.2.2.2.map (fun p => (n, p)) else []) := rfl
theorem loF_S (ln : Nat → Ln) (b n : Nat) : loF ln b (n + 1) = if bkF ln n = b ∧ (ln n).2.2.1 = 1 then (n : Int) else loF ln b n := rfl
theorem toF_S (ln : Nat → Ln) (b n : Nat) : toF ln b (n + 1) = if bkF ln n = b then toF ln b n + sgF (ln n).1 (ln n).2.2.2.1 else toF ln b n := rfl
theorem clF_S (ln : Nat → Ln) (b n : Nat) : clF ln b (n + 1) = if bkF ln n = b ∧ (ln n).1 = 2 then 1 else clF ln b n := rfl
theorem mkF_le2 {ln : Nat → Ln} {b nM : Nat} {X : zMu} {nT : Nat} (h : Dblk X ln b nT nM) : (mkF ln b nM).length ≤ 2 := h.2.2.2.1
/-- the rows that a block and a line live in, the same elsewhere -/
theorem Mrow_c {ms : List (Nat × Int × Int)} {X X' : zMu} {b : Nat} (h : Mrow ms X b) (e23 : X' 23 b = X 23 b) (e : ∀ j, j < 2 → X' 24 (2 * b + j) = X 24 (2 * b + j) ∧ X' 25 (2 * b + j) = X 25 (2 * b + j) ∧ X' 26 (2 * b + j) = X 26 (2 * b + j)) : Mrow ms X' b := by
  obtain ⟨h1, h2, h3⟩ := h
  refine ⟨h1, by rw [e23]; exact h2, fun j hj => ?_⟩
  obtain ⟨a, b, c⟩ := e j hj
  rw [a, b, c]
  exact h3 j hj
section DRAFT
variable (d len : Nat) (ν : zNu)
/-- where a line begins: the rows that it lays -/
def begX (X : zMu) (n g : Nat) (s : Int) : zMu := zup (zup (zup X 12 n (zi s)) 13 n (zi (g : Int))) 14 n (zi 0)
def newX (X : zMu) (n g : Nat) : zMu := zup (zup (zup (zup (zup (zup (zup (zup (zup (zup (zup X 18 g (zi (n : Int))) 19 n (zi 0)) 20 n (zi 0)) 22 n (zi (-1))) 23 n (zi 0)) 24 (2 * n) (zi (-1))) 25 (2 * n) (zi 0)) 26 (2 * n) (zi 0)) 24 (2 * n + 1) (zi (-1))) 25 (2 * n + 1) (zi 0)) 26 (2 * n + 1) (zi 0)
theorem F_begin (X : zMu) (n g : Nat) (s : Int) (o : Int) (hn : n < 24) (hg : g < 8) (e11 : X 11 2 = zi (n : Int)) (e18 : X 18 g = zi o) (ho : -1 ≤ o ∧ o < n) : zF zT0 (d + 1) 14 [.ref 11, .int (zi s), .int (zi (g : Int))] (zm len X ν) = some (.null, zm len (zup (if o = -1 then newX (begX X n g s) n g else begX X n g s) 17 n (zi (if o = -1 then (n : Int) else o))) ν) := by
  have zm1 : (-1 : Int32) = zi (-1) := rfl
  have er : ∀ r i v, r ≠ 11 → ∀ Z : zMu, (zup Z r i v) 11 = Z 11 := fun r i v h Z => zup_ne _ _ _ (Ne.symm h)
  have er18 : ∀ r i v, r ≠ 18 → ∀ Z : zMu, (zup Z r i v) 18 = Z 18 := fun r i v h Z => zup_ne _ _ _ (Ne.symm h)
  rw [B_X1_beginLine]
  by_cases z : o = -1
  · rw [if_pos z, if_pos z]
    have z0 : znar 3 (zi 0) = zi 0 := rfl
    simp (disch := omega) only [e11, e18, z, zm1, B_X1_beginLine_80, er, z0, zbi_some, zbl_some, zbv_some, zbi_none, zbl_none, zbv_none, zbi_ite, zbl_ite, zbv_ite, zbZ, zbO, zc_lt, zc_le, zc_ge, zc_gt, zc_eq, zk0, zk1, zk2, zk3, zk4, zk5, zk6, zk7, zk8, zk9, zk10, zk11, zk12, zk14, zk15, zk16, zk17, zk19, zk20, zk21, zk24, zk25, zk30, zk32, zk36, zk40, zk45, zk50, zk64, zk97, zk99, zk100, zk102, zk122, zk128, zk255, zk800, zk801, zk900, zk999, zk1000, zk1997, zk9999, zk10000, zk100000, zk99999, zk9999999, zk999999999, zk2147483647, zlc0, zlc1, zlc2, zlc3, zlc4, zlc23, zlc99, zlc100, zlc9999999, zlc999999999999, zlc1073741824, zi_neg, zi_add, zi_sub, zi_mul, zl_neg, zl_add, zl_sub, zl_mul, zi_toInt, zi_nat, zi_le, zi_lt, zi_eq, zl_le, zl_lt, zl_eq, zl_toInt, zl_of32, zi_of64, zi_div, zl_div, zmodI, ↓reduceIte, zTle, zFle, zTlt, zFlt, zTeq, zFeq, if_true, if_false, and_self, and_true, true_and, and_false, false_and, or_self, or_true, true_or, or_false, false_or, not_true_eq_false, not_false_eq_true, zcastA, zcastL, znatC, zab, Int.reduceAdd, Int.reduceSub, Int.reduceMul, Int.reduceNeg, Int.reduceToNat, Nat.reduceAdd]
    rw [B_X1_beginLine_97]
    simp (disch := omega) only [e11, e18, z, zm1, er, z0, zbi_some, zbl_some, zbv_some, zbi_none, zbl_none, zbv_none, zbi_ite, zbl_ite, zbv_ite, zbZ, zbO, zc_lt, zc_le, zc_ge, zc_gt, zc_eq, zk0, zk1, zk2, zk3, zk4, zk5, zk6, zk7, zk8, zk9, zk10, zk11, zk12, zk14, zk15, zk16, zk17, zk19, zk20, zk21, zk24, zk25, zk30, zk32, zk36, zk40, zk45, zk50, zk64, zk97, zk99, zk100, zk102, zk122, zk128, zk255, zk800, zk801, zk900, zk999, zk1000, zk1997, zk9999, zk10000, zk100000, zk99999, zk9999999, zk999999999, zk2147483647, zlc0, zlc1, zlc2, zlc3, zlc4, zlc23, zlc99, zlc100, zlc9999999, zlc999999999999, zlc1073741824, zi_neg, zi_add, zi_sub, zi_mul, zl_neg, zl_add, zl_sub, zl_mul, zi_toInt, zi_nat, zi_le, zi_lt, zi_eq, zl_le, zl_lt, zl_eq, zl_toInt, zl_of32, zi_of64, zi_div, zl_div, zmodI, ↓reduceIte, zTle, zFle, zTlt, zFlt, zTeq, zFeq, if_true, if_false, and_self, and_true, true_and, and_false, false_and, or_self, or_true, true_or, or_false, false_or, not_true_eq_false, not_false_eq_true, zcastA, zcastL, znatC, zab, Int.reduceAdd, Int.reduceSub, Int.reduceMul, Int.reduceNeg, Int.reduceToNat, Nat.reduceAdd]
    rw [B_X1_beginLine_97]
    simp (disch := omega) only [e11, e18, z, zm1, er, z0, zbi_some, zbl_some, zbv_some, zbi_none, zbl_none, zbv_none, zbi_ite, zbl_ite, zbv_ite, zbZ, zbO, zc_lt, zc_le, zc_ge, zc_gt, zc_eq, zk0, zk1, zk2, zk3, zk4, zk5, zk6, zk7, zk8, zk9, zk10, zk11, zk12, zk14, zk15, zk16, zk17, zk19, zk20, zk21, zk24, zk25, zk30, zk32, zk36, zk40, zk45, zk50, zk64, zk97, zk99, zk100, zk102, zk122, zk128, zk255, zk800, zk801, zk900, zk999, zk1000, zk1997, zk9999, zk10000, zk100000, zk99999, zk9999999, zk999999999, zk2147483647, zlc0, zlc1, zlc2, zlc3, zlc4, zlc23, zlc99, zlc100, zlc9999999, zlc999999999999, zlc1073741824, zi_neg, zi_add, zi_sub, zi_mul, zl_neg, zl_add, zl_sub, zl_mul, zi_toInt, zi_nat, zi_le, zi_lt, zi_eq, zl_le, zl_lt, zl_eq, zl_toInt, zl_of32, zi_of64, zi_div, zl_div, zmodI, ↓reduceIte, zTle, zFle, zTlt, zFlt, zTeq, zFeq, if_true, if_false, and_self, and_true, true_and, and_false, false_and, or_self, or_true, true_or, or_false, false_or, not_true_eq_false, not_false_eq_true, zcastA, zcastL, znatC, zab, Int.reduceAdd, Int.reduceSub, Int.reduceMul, Int.reduceNeg, Int.reduceToNat, Nat.reduceAdd]
    rw [B_X1_beginLine_97]
    simp (disch := omega) only [e11, e18, z, zm1, er, er18, z0, zup_self, upd_eq, B_X1_beginLine_136, zbi_some, zbl_some, zbv_some, zbi_none, zbl_none, zbv_none, zbi_ite, zbl_ite, zbv_ite, zbZ, zbO, zc_lt, zc_le, zc_ge, zc_gt, zc_eq, zk0, zk1, zk2, zk3, zk4, zk5, zk6, zk7, zk8, zk9, zk10, zk11, zk12, zk14, zk15, zk16, zk17, zk19, zk20, zk21, zk24, zk25, zk30, zk32, zk36, zk40, zk45, zk50, zk64, zk97, zk99, zk100, zk102, zk122, zk128, zk255, zk800, zk801, zk900, zk999, zk1000, zk1997, zk9999, zk10000, zk100000, zk99999, zk9999999, zk999999999, zk2147483647, zlc0, zlc1, zlc2, zlc3, zlc4, zlc23, zlc99, zlc100, zlc9999999, zlc999999999999, zlc1073741824, zi_neg, zi_add, zi_sub, zi_mul, zl_neg, zl_add, zl_sub, zl_mul, zi_toInt, zi_nat, zi_le, zi_lt, zi_eq, zl_le, zl_lt, zl_eq, zl_toInt, zl_of32, zi_of64, zi_div, zl_div, zmodI, ↓reduceIte, zTle, zFle, zTlt, zFlt, zTeq, zFeq, if_true, if_false, and_self, and_true, true_and, and_false, false_and, or_self, or_true, true_or, or_false, false_or, not_true_eq_false, not_false_eq_true, zcastA, zcastL, znatC, zab, Int.reduceAdd, Int.reduceSub, Int.reduceMul, Int.reduceNeg, Int.reduceToNat, Nat.reduceAdd]
    have i2 : (2 * (n : Int)).toNat = 2 * n := by omega
    have i3 : (2 * (n : Int) + 1).toNat = 2 * n + 1 := by omega
    rw [i2, i3]
    rfl
  · rw [if_neg z, if_neg z]
    simp (disch := omega) only [e11, e18, z, zm1, er, er18, B_X1_beginLine_136, zbi_some, zbl_some, zbv_some, zbi_none, zbl_none, zbv_none, zbi_ite, zbl_ite, zbv_ite, zbZ, zbO, zc_lt, zc_le, zc_ge, zc_gt, zc_eq, zk0, zk1, zk2, zk3, zk4, zk5, zk6, zk7, zk8, zk9, zk10, zk11, zk12, zk14, zk15, zk16, zk17, zk19, zk20, zk21, zk24, zk25, zk30, zk32, zk36, zk40, zk45, zk50, zk64, zk97, zk99, zk100, zk102, zk122, zk128, zk255, zk800, zk801, zk900, zk999, zk1000, zk1997, zk9999, zk10000, zk100000, zk99999, zk9999999, zk999999999, zk2147483647, zlc0, zlc1, zlc2, zlc3, zlc4, zlc23, zlc99, zlc100, zlc9999999, zlc999999999999, zlc1073741824, zi_neg, zi_add, zi_sub, zi_mul, zl_neg, zl_add, zl_sub, zl_mul, zi_toInt, zi_nat, zi_le, zi_lt, zi_eq, zl_le, zl_lt, zl_eq, zl_toInt, zl_of32, zi_of64, zi_div, zl_div, zmodI, ↓reduceIte, zTle, zFle, zTlt, zFlt, zTeq, zFeq, if_true, if_false, and_self, and_true, true_and, and_false, false_and, or_self, or_true, true_or, or_false, false_or, not_true_eq_false, not_false_eq_true, zcastA, zcastL, znatC, zab, Int.reduceAdd, Int.reduceSub, Int.reduceMul, Int.reduceNeg, Int.reduceToNat, Nat.reduceAdd]
    rfl
end DRAFT

/-! TABLET solved: the class's parts -/
theorem mk_mem (ln : Nat → Ln) (b : Nat) : ∀ n : Nat, ∀ p, p ∈ mkF ln b n → p.1 < n ∧ bkF ln p.1 = b ∧ p.2 ∈ (ln p.1).2.2.2.2
  | 0, p, h => by cases h
  | n + 1, p, h => by
    rw [mkF_S] at h
    rcases List.mem_append.mp h with q | q
    · obtain ⟨a, c⟩ := mk_mem ln b n p q
      exact ⟨by omega, c⟩
    · by_cases z : bkF ln n = b
      · rw [if_pos z] at q
        obtain ⟨w, w1, w2⟩ := List.mem_map.mp q
        rw [← w2]
        exact ⟨by show n < n + 1; omega, z, w1⟩
      · rw [if_neg z] at q
        cases q
theorem mk_r {ln : Nat → Ln} {n : Nat} (h : LV ln n) (b j : Nat) : (mL (mkF ln b n) j = -1 ∧ mU (mkF ln b n) j = 0 ∧ mW (mkF ln b n) j = 0) ∨ ∃ i : Nat, mL (mkF ln b n) j = (i : Int) ∧ i < n ∧ bkF ln i = b ∧ (1 ≤ mU (mkF ln b n) j ∧ mU (mkF ln b n) j ≤ 99999) ∧ (1 ≤ mW (mkF ln b n) j ∧ mW (mkF ln b n) j ≤ 99) ∧ (mU (mkF ln b n) j, mW (mkF ln b n) j) ∈ (ln i).2.2.2.2 := by
  unfold mL mU mW
  cases e : (mkF ln b n)[j]? with
  | none => exact Or.inl ⟨rfl, rfl, rfl⟩
  | some p =>
    obtain ⟨a1, a2, a3⟩ := mk_mem ln b n p (List.mem_of_getElem? e)
    have v := (h.1 p.1 a1).2.2.2.2.1 p.2 a3
    exact Or.inr ⟨p.1, rfl, a1, a2, v.1, v.2, a3⟩
def sgM (ln : Nat → Ln) (n b j : Nat) (x : Int) : Int := if mL (mkF ln b n) j = -1 then 0 else sgF (ln (mL (mkF ln b n) j).toNat).1 (mU (mkF ln b n) j * x)
def dueT (ln : Nat → Ln) (n b : Nat) (x y : Int) : Int := toF ln b n + sgM ln n b 0 x + sgM ln n b 1 y
def dueF (ln : Nat → Ln) (n b : Nat) (x y : Int) : Int := if loF ln b n = -1 then dueT ln n b x y else -(sgF (ln (loF ln b n).toNat).1 (dueT ln n b x y))
def vlM (ln : Nat → Ln) (n b : Nat) (m x y : Int) : Int := (ln m.toNat).2.2.2.1 + (if mL (mkF ln b n) 0 = m then mU (mkF ln b n) 0 * x else 0) + (if mL (mkF ln b n) 1 = m then mU (mkF ln b n) 1 * y else 0)
def wmn (A : Nat → Int) (i v : Int) : Nat → Int := fun j => if (j : Int) = i then (if v < A j then v else A j) else A j
def wmx (B : Nat → Int) (i v : Int) : Nat → Int := fun j => if (j : Int) = i then (if B j < v then v else B j) else B j
def RW (ln : Nat → Ln) (n b : Nat) (M : zMu) (A B : Nat → Int) : Prop := ∀ j : Nat, j < n → bkF ln j = b → (M 15 j = zi (A j) ∧ -1 ≤ A j ∧ A j ≤ 2147483647) ∧ M 16 j = zi (B j) ∧ -1 ≤ B j ∧ B j ≤ 2147483647
def frS (M M' : zMu) : Prop := ∀ r, r ≠ 15 → r ≠ 16 → r ≠ 21 → M' r = M r
def frB (ln : Nat → Ln) (b : Nat) (M M' : zMu) : Prop := frS M M' ∧ (∀ j, bkF ln j ≠ b → M' 15 j = M 15 j ∧ M' 16 j = M 16 j) ∧ ∀ c, c ≠ b → M' 21 c = M 21 c
theorem dbd_c {M M' : zMu} {ln : Nat → Ln} {n : Nat} (h : DBd M ln n) (f : frS M M') : DBd M' ln n := by
  obtain ⟨h1, h2, h3, h4⟩ := h
  have e : ∀ r, r ≠ 15 → r ≠ 16 → r ≠ 21 → M' r = M r := f
  refine ⟨by rw [e 11 (by decide) (by decide) (by decide)]; exact h1, fun i hi => ?_, fun g hg => by rw [e 18 (by decide) (by decide) (by decide)]; exact h3 g hg, fun b hb hbb => ?_⟩
  · unfold Dlin
    rw [e 12 (by decide) (by decide) (by decide), e 13 (by decide) (by decide) (by decide), e 14 (by decide) (by decide) (by decide), e 17 (by decide) (by decide) (by decide)]
    exact h2 i hi
  · obtain ⟨a1, a2, a3, a4⟩ := h4 b hb hbb
    unfold Dblk
    rw [e 19 (by decide) (by decide) (by decide), e 20 (by decide) (by decide) (by decide), e 22 (by decide) (by decide) (by decide)]
    exact ⟨a1, a2, a3, Mrow_c a4 (by rw [e 23 (by decide) (by decide) (by decide)]) (fun j _ => by rw [e 24 (by decide) (by decide) (by decide), e 25 (by decide) (by decide) (by decide), e 26 (by decide) (by decide) (by decide)]; exact ⟨rfl, rfl, rfl⟩)⟩
theorem frS_rf (M : zMu) : frS M M := fun _ _ _ _ => rfl
theorem frS_tr {M M' M'' : zMu} (h : frS M M') (h2 : frS M' M'') : frS M M'' := fun r a b c => by rw [h2 r a b c, h r a b c]
theorem frS_up {M M' : zMu} {r i : Nat} {v : Int32} (h : frS M M') (hr : r = 15 ∨ r = 16 ∨ r = 21) : frS M (zup M' r i v) := fun q a b c => by rw [zup_ne _ _ _ (show q ≠ r by omega), h q a b c]
theorem sg_b {s v B : Int} (h : -B ≤ v ∧ v ≤ B) : -B ≤ sgF s v ∧ sgF s v ≤ B := by
  unfold sgF
  split <;> omega
theorem toF_b {ln : Nat → Ln} (b : Nat) : ∀ n : Nat, (∀ i, i < n → LnV (ln i)) → -(59399406 * (n : Int)) ≤ toF ln b n ∧ toF ln b n ≤ 59399406 * (n : Int)
  | 0, _ => by show -(59399406 * ((0 : Nat) : Int)) ≤ 0 ∧ (0 : Int) ≤ 59399406 * ((0 : Nat) : Int); omega
  | n + 1, h => by
    have a := toF_b b n (fun i hi => h i (by omega))
    have v := (h n (by omega)).2.2.2.1
    have s := sg_b (s := (ln n).1) (v := (ln n).2.2.2.1) (B := 59399406) (by omega)
    rw [toF_S]
    split <;> omega
theorem mul_99 {u x : Int} (hu : 0 ≤ u ∧ u ≤ 99999) (hx : 0 ≤ x ∧ x ≤ 99) : 0 ≤ u * x ∧ u * x ≤ 9899901 := by
  refine ⟨Int.mul_nonneg hu.1 hx.1, ?_⟩
  have := Int.mul_le_mul hu.2 hx.2 hx.1 (show (0 : Int) ≤ 99999 by omega)
  omega
theorem sgM_b {ln : Nat → Ln} {n : Nat} (h : LV ln n) (b j : Nat) {x : Int} (hx : 0 ≤ x ∧ x ≤ 99) : -9899901 ≤ sgM ln n b j x ∧ sgM ln n b j x ≤ 9899901 := by
  unfold sgM
  rcases mk_r h b j with ⟨a, _, _⟩ | ⟨i, a, _, _, u, _, _⟩
  · rw [if_pos a]
    omega
  · rw [if_neg (by omega)]
    have := mul_99 (u := mU (mkF ln b n) j) (by omega) hx
    exact sg_b (by omega)
theorem frB_rf (ln : Nat → Ln) (b : Nat) (M : zMu) : frB ln b M M := ⟨frS_rf M, fun _ _ => ⟨rfl, rfl⟩, fun _ _ => rfl⟩
theorem frB_tr {ln : Nat → Ln} {b : Nat} {M M' M'' : zMu} (h : frB ln b M M') (h2 : frB ln b M' M'') : frB ln b M M'' := ⟨frS_tr h.1 h2.1, fun j hj => by rw [(h2.2.1 j hj).1, (h2.2.1 j hj).2]; exact h.2.1 j hj, fun c hc => by rw [h2.2.2 c hc, h.2.2 c hc]⟩
section SC
variable {ln : Nat → Ln} {n b : Nat}
theorem F_sgn (d len : Nat) {M : zMu} (ν : zNu) {i : Nat} (hi : i < 24) (e : M 12 i = zi (ln i).1) (hs : 0 ≤ (ln i).1 ∧ (ln i).1 ≤ 2) (v : Int) : zF zT0 (d + 1) 16 [.ref 11, .int (zi (i : Int)), .int (zi v)] (zm len M ν) = some (.int (zi (sgF (ln i).1 v)), zm len M ν) := by
  unfold sgF
  rw [B_X1_signed]
  by_cases z : (ln i).1 = 0
  · rw [if_pos z]
    simp (disch := omega) only [e, z, zbi_some, zbl_some, zbv_some, zbi_none, zbl_none, zbv_none, zbi_ite, zbl_ite, zbv_ite, zbZ, zbO, zc_lt, zc_le, zc_ge, zc_gt, zc_eq, zk0, zk1, zk2, zk3, zk4, zk5, zk6, zk7, zk8, zk9, zk10, zk11, zk12, zk14, zk15, zk16, zk17, zk19, zk20, zk21, zk24, zk25, zk30, zk32, zk36, zk40, zk45, zk50, zk64, zk97, zk99, zk100, zk102, zk122, zk128, zk255, zk800, zk801, zk900, zk999, zk1000, zk1997, zk9999, zk10000, zk100000, zk99999, zk9999999, zk999999999, zk2147483647, zlc0, zlc1, zlc2, zlc3, zlc4, zlc23, zlc99, zlc100, zlc9999999, zlc999999999999, zlc1073741824, zi_neg, zi_add, zi_sub, zi_mul, zl_neg, zl_add, zl_sub, zl_mul, zi_toInt, zi_nat, zi_le, zi_lt, zi_eq, zl_le, zl_lt, zl_eq, zl_toInt, zl_of32, zi_of64, zi_div, zl_div, zmodI, ↓reduceIte, zTle, zFle, zTlt, zFlt, zTeq, zFeq, if_true, if_false, and_self, and_true, true_and, and_false, false_and, or_self, or_true, true_or, or_false, false_or, not_true_eq_false, not_false_eq_true, zcastA, zcastL, znatC, zab, Int.reduceAdd, Int.reduceSub, Int.reduceMul, Int.reduceNeg, Int.reduceToNat, Nat.reduceAdd]
  · rw [if_neg z]
    simp (disch := omega) only [e, z, zbi_some, zbl_some, zbv_some, zbi_none, zbl_none, zbv_none, zbi_ite, zbl_ite, zbv_ite, zbZ, zbO, zc_lt, zc_le, zc_ge, zc_gt, zc_eq, zk0, zk1, zk2, zk3, zk4, zk5, zk6, zk7, zk8, zk9, zk10, zk11, zk12, zk14, zk15, zk16, zk17, zk19, zk20, zk21, zk24, zk25, zk30, zk32, zk36, zk40, zk45, zk50, zk64, zk97, zk99, zk100, zk102, zk122, zk128, zk255, zk800, zk801, zk900, zk999, zk1000, zk1997, zk9999, zk10000, zk100000, zk99999, zk9999999, zk999999999, zk2147483647, zlc0, zlc1, zlc2, zlc3, zlc4, zlc23, zlc99, zlc100, zlc9999999, zlc999999999999, zlc1073741824, zi_neg, zi_add, zi_sub, zi_mul, zl_neg, zl_add, zl_sub, zl_mul, zi_toInt, zi_nat, zi_le, zi_lt, zi_eq, zl_le, zl_lt, zl_eq, zl_toInt, zl_of32, zi_of64, zi_div, zl_div, zmodI, ↓reduceIte, zTle, zFle, zTlt, zFlt, zTeq, zFeq, if_true, if_false, and_self, and_true, true_and, and_false, false_and, or_self, or_true, true_or, or_false, false_or, not_true_eq_false, not_false_eq_true, zcastA, zcastL, znatC, zab, Int.reduceAdd, Int.reduceSub, Int.reduceMul, Int.reduceNeg, Int.reduceToNat, Nat.reduceAdd]
theorem F_mkb (d len : Nat) {M : zMu} (ν : zNu) (h : LV ln n) (hn : n ≤ 24) (hD : DBd M ln n) (hb : b < n) (hbb : bkF ln b = b) {j : Nat} (hj : j < 2) (x : Int) : zF zT0 (d + 2) 23 [.ref 11, .int (zi (2 * (b : Int) + (j : Int))), .int (zi x)] (zm len M ν) = some (.int (zi (sgM ln n b j x)), zm len M ν) := by
  obtain ⟨m1, m2, m3⟩ := (hD.2.2.2 b hb hbb).2.2.2.2.2 j hj
  have ix : (2 * (b : Int) + (j : Int)).toNat = 2 * b + j := by omega
  have zm1 : (-1 : Int32) = zi (-1) := rfl
  unfold sgM
  rw [B_X1_markedBy]
  rcases mk_r h b j with ⟨a, _, _⟩ | ⟨i, a, hi, hib, u, w, mem⟩
  · rw [if_pos a]
    simp (disch := omega) only [ix, m1, a, zm1, B_X1_markedBy_32, zbi_some, zbl_some, zbv_some, zbi_none, zbl_none, zbv_none, zbi_ite, zbl_ite, zbv_ite, zbZ, zbO, zc_lt, zc_le, zc_ge, zc_gt, zc_eq, zk0, zk1, zk2, zk3, zk4, zk5, zk6, zk7, zk8, zk9, zk10, zk11, zk12, zk14, zk15, zk16, zk17, zk19, zk20, zk21, zk24, zk25, zk30, zk32, zk36, zk40, zk45, zk50, zk64, zk97, zk99, zk100, zk102, zk122, zk128, zk255, zk800, zk801, zk900, zk999, zk1000, zk1997, zk9999, zk10000, zk100000, zk99999, zk9999999, zk999999999, zk2147483647, zlc0, zlc1, zlc2, zlc3, zlc4, zlc23, zlc99, zlc100, zlc9999999, zlc999999999999, zlc1073741824, zi_neg, zi_add, zi_sub, zi_mul, zl_neg, zl_add, zl_sub, zl_mul, zi_toInt, zi_nat, zi_le, zi_lt, zi_eq, zl_le, zl_lt, zl_eq, zl_toInt, zl_of32, zi_of64, zi_div, zl_div, zmodI, ↓reduceIte, zTle, zFle, zTlt, zFlt, zTeq, zFeq, if_true, if_false, and_self, and_true, true_and, and_false, false_and, or_self, or_true, true_or, or_false, false_or, not_true_eq_false, not_false_eq_true, zcastA, zcastL, znatC, zab, Int.reduceAdd, Int.reduceSub, Int.reduceMul, Int.reduceNeg, Int.reduceToNat, Nat.reduceAdd]
  · rw [if_neg (by omega), a]
    have G := F_sgn (ln := ln) d len ν (show i < 24 by omega) (hD.2.1 i hi).1 ((h.1 i hi).1) (mU (mkF ln b n) j * x)
    simp (disch := omega) only [ix, m1, m2, a, zm1, G, B_X1_markedBy_32, zbi_some, zbl_some, zbv_some, zbi_none, zbl_none, zbv_none, zbi_ite, zbl_ite, zbv_ite, zbZ, zbO, zc_lt, zc_le, zc_ge, zc_gt, zc_eq, zk0, zk1, zk2, zk3, zk4, zk5, zk6, zk7, zk8, zk9, zk10, zk11, zk12, zk14, zk15, zk16, zk17, zk19, zk20, zk21, zk24, zk25, zk30, zk32, zk36, zk40, zk45, zk50, zk64, zk97, zk99, zk100, zk102, zk122, zk128, zk255, zk800, zk801, zk900, zk999, zk1000, zk1997, zk9999, zk10000, zk100000, zk99999, zk9999999, zk999999999, zk2147483647, zlc0, zlc1, zlc2, zlc3, zlc4, zlc23, zlc99, zlc100, zlc9999999, zlc999999999999, zlc1073741824, zi_neg, zi_add, zi_sub, zi_mul, zl_neg, zl_add, zl_sub, zl_mul, zi_toInt, zi_nat, zi_le, zi_lt, zi_eq, zl_le, zl_lt, zl_eq, zl_toInt, zl_of32, zi_of64, zi_div, zl_div, zmodI, ↓reduceIte, zTle, zFle, zTlt, zFlt, zTeq, zFeq, if_true, if_false, and_self, and_true, true_and, and_false, false_and, or_self, or_true, true_or, or_false, false_or, not_true_eq_false, not_false_eq_true, zcastA, zcastL, znatC, zab, Int.reduceAdd, Int.reduceSub, Int.reduceMul, Int.reduceNeg, Int.reduceToNat, Nat.reduceAdd]
theorem F_due (d len : Nat) {M : zMu} (ν : zNu) (h : LV ln n) (hn : n ≤ 24) (hD : DBd M ln n) (hb : b < n) (hbb : bkF ln b = b) (x y : Int) : zF zT0 (d + 3) 22 [.ref 11, .int (zi (b : Int)), .int (zi x), .int (zi y)] (zm len M ν) = some (.int (zi (dueF ln n b x y)), zm len M ν) := by
  have A := F_mkb d len ν h hn hD hb hbb (show 0 < 2 by decide) x
  have B := F_mkb d len ν h hn hD hb hbb (show 1 < 2 by decide) y
  have A : zF zT0 (d + 2) 23 [.ref 11, .int (zi (2 * (b : Int))), .int (zi x)] (zm len M ν) = some (.int (zi (sgM ln n b 0 x)), zm len M ν) := by
    have e : 2 * (b : Int) + ((0 : Nat) : Int) = 2 * (b : Int) := by omega
    rw [e] at A
    exact A
  have B : zF zT0 (d + 2) 23 [.ref 11, .int (zi (2 * (b : Int) + 1)), .int (zi y)] (zm len M ν) = some (.int (zi (sgM ln n b 1 y)), zm len M ν) := B
  obtain ⟨_, e20, e22, _⟩ := hD.2.2.2 b hb hbb
  have lr := loF_r ln b n
  have zm1 : (-1 : Int32) = zi (-1) := rfl
  unfold dueF dueT
  rw [B_X1_dueOfLost]
  by_cases z : loF ln b n = -1
  · rw [if_pos z]
    simp (disch := omega) only [A, B, B_X1_dueOfLost_14, B_X1_dueOfLost_25, e20, e22, z, zm1, zbi_some, zbl_some, zbv_some, zbi_none, zbl_none, zbv_none, zbi_ite, zbl_ite, zbv_ite, zbZ, zbO, zc_lt, zc_le, zc_ge, zc_gt, zc_eq, zk0, zk1, zk2, zk3, zk4, zk5, zk6, zk7, zk8, zk9, zk10, zk11, zk12, zk14, zk15, zk16, zk17, zk19, zk20, zk21, zk24, zk25, zk30, zk32, zk36, zk40, zk45, zk50, zk64, zk97, zk99, zk100, zk102, zk122, zk128, zk255, zk800, zk801, zk900, zk999, zk1000, zk1997, zk9999, zk10000, zk100000, zk99999, zk9999999, zk999999999, zk2147483647, zlc0, zlc1, zlc2, zlc3, zlc4, zlc23, zlc99, zlc100, zlc9999999, zlc999999999999, zlc1073741824, zi_neg, zi_add, zi_sub, zi_mul, zl_neg, zl_add, zl_sub, zl_mul, zi_toInt, zi_nat, zi_le, zi_lt, zi_eq, zl_le, zl_lt, zl_eq, zl_toInt, zl_of32, zi_of64, zi_div, zl_div, zmodI, ↓reduceIte, zTle, zFle, zTlt, zFlt, zTeq, zFeq, if_true, if_false, and_self, and_true, true_and, and_false, false_and, or_self, or_true, true_or, or_false, false_or, not_true_eq_false, not_false_eq_true, zcastA, zcastL, znatC, zab, Int.reduceAdd, Int.reduceSub, Int.reduceMul, Int.reduceNeg, Int.reduceToNat, Nat.reduceAdd]
  · rw [if_neg z]
    obtain ⟨l, hl⟩ : ∃ l : Nat, loF ln b n = (l : Int) := ⟨(loF ln b n).toNat, by omega⟩
    rw [hl] at e22 z ⊢
    have G := F_sgn (ln := ln) (d + 1) len ν (show l < 24 by omega) (hD.2.1 l (by omega)).1 ((h.1 l (by omega)).1) (toF ln b n + sgM ln n b 0 x + sgM ln n b 1 y)
    simp (disch := omega) only [A, B, B_X1_dueOfLost_14, B_X1_dueOfLost_25, e20, e22, z, zm1, G, B_X1_dueOfLost_55, zbi_some, zbl_some, zbv_some, zbi_none, zbl_none, zbv_none, zbi_ite, zbl_ite, zbv_ite, zbZ, zbO, zc_lt, zc_le, zc_ge, zc_gt, zc_eq, zk0, zk1, zk2, zk3, zk4, zk5, zk6, zk7, zk8, zk9, zk10, zk11, zk12, zk14, zk15, zk16, zk17, zk19, zk20, zk21, zk24, zk25, zk30, zk32, zk36, zk40, zk45, zk50, zk64, zk97, zk99, zk100, zk102, zk122, zk128, zk255, zk800, zk801, zk900, zk999, zk1000, zk1997, zk9999, zk10000, zk100000, zk99999, zk9999999, zk999999999, zk2147483647, zlc0, zlc1, zlc2, zlc3, zlc4, zlc23, zlc99, zlc100, zlc9999999, zlc999999999999, zlc1073741824, zi_neg, zi_add, zi_sub, zi_mul, zl_neg, zl_add, zl_sub, zl_mul, zi_toInt, zi_nat, zi_le, zi_lt, zi_eq, zl_le, zl_lt, zl_eq, zl_toInt, zl_of32, zi_of64, zi_div, zl_div, zmodI, ↓reduceIte, zTle, zFle, zTlt, zFlt, zTeq, zFeq, if_true, if_false, and_self, and_true, true_and, and_false, false_and, or_self, or_true, true_or, or_false, false_or, not_true_eq_false, not_false_eq_true, zcastA, zcastL, znatC, zab, Int.reduceAdd, Int.reduceSub, Int.reduceMul, Int.reduceNeg, Int.reduceToNat, Nat.reduceAdd]
theorem F_wid (d len : Nat) {M : zMu} (ν : zNu) {A B : Nat → Int} (hR : RW ln n b M A B) {i lo hi : Int} (hn : n ≤ 24) (hi' : i = -1 ∨ ∃ k : Nat, i = (k : Int) ∧ k < n ∧ bkF ln k = b) (hlo : 0 ≤ lo ∧ lo ≤ 2147483647) (hhi : 0 ≤ hi ∧ hi ≤ 2147483647) : ∃ M', zF zT0 (d + 1) 25 [.ref 11, .int (zi i), .int (zi lo), .int (zi hi)] (zm len M ν) = some (.null, zm len M' ν) ∧ RW ln n b M' (wmn A i lo) (wmx B i hi) ∧ frB ln b M M' := by
  have zm1 : (-1 : Int32) = zi (-1) := rfl
  by_cases z : i = -1
  · refine ⟨M, ?_, fun j hj hjb => ?_, frB_rf ln b M⟩
    · rw [B_X1_widen]
      simp (disch := omega) only [z, zm1, zbi_some, zbl_some, zbv_some, zbi_none, zbl_none, zbv_none, zbi_ite, zbl_ite, zbv_ite, zbZ, zbO, zc_lt, zc_le, zc_ge, zc_gt, zc_eq, zk0, zk1, zk2, zk3, zk4, zk5, zk6, zk7, zk8, zk9, zk10, zk11, zk12, zk14, zk15, zk16, zk17, zk19, zk20, zk21, zk24, zk25, zk30, zk32, zk36, zk40, zk45, zk50, zk64, zk97, zk99, zk100, zk102, zk122, zk128, zk255, zk800, zk801, zk900, zk999, zk1000, zk1997, zk9999, zk10000, zk100000, zk99999, zk9999999, zk999999999, zk2147483647, zlc0, zlc1, zlc2, zlc3, zlc4, zlc23, zlc99, zlc100, zlc9999999, zlc999999999999, zlc1073741824, zi_neg, zi_add, zi_sub, zi_mul, zl_neg, zl_add, zl_sub, zl_mul, zi_toInt, zi_nat, zi_le, zi_lt, zi_eq, zl_le, zl_lt, zl_eq, zl_toInt, zl_of32, zi_of64, zi_div, zl_div, zmodI, ↓reduceIte, zTle, zFle, zTlt, zFlt, zTeq, zFeq, if_true, if_false, and_self, and_true, true_and, and_false, false_and, or_self, or_true, true_or, or_false, false_or, not_true_eq_false, not_false_eq_true, zcastA, zcastL, znatC, zab, Int.reduceAdd, Int.reduceSub, Int.reduceMul, Int.reduceNeg, Int.reduceToNat, Nat.reduceAdd]
    · unfold wmn wmx
      rw [if_neg (by omega), if_neg (by omega)]
      exact hR j hj hjb
  · obtain ⟨k, hk, kn, kb⟩ : ∃ k : Nat, i = (k : Int) ∧ k < n ∧ bkF ln k = b := hi'.resolve_left z
    clear hi'
    subst hk
    obtain ⟨⟨a1, a2, a3⟩, b1, b2, b3⟩ := hR k kn kb
    refine ⟨zup (zup M 15 k (zi (if lo < A k then lo else A k))) 16 k (zi (if B k < hi then hi else B k)), ?_, fun j hj hjb => ?_, frS_up (frS_up (frS_rf M) (by omega)) (by omega), fun j hj => ?_, fun c hc => ?_⟩
    · rw [B_X1_widen]
      simp (disch := omega) only [z, zm1, a1, b1, zi_ite, zbi_some, zbl_some, zbv_some, zbi_none, zbl_none, zbv_none, zbi_ite, zbl_ite, zbv_ite, zbZ, zbO, zc_lt, zc_le, zc_ge, zc_gt, zc_eq, zk0, zk1, zk2, zk3, zk4, zk5, zk6, zk7, zk8, zk9, zk10, zk11, zk12, zk14, zk15, zk16, zk17, zk19, zk20, zk21, zk24, zk25, zk30, zk32, zk36, zk40, zk45, zk50, zk64, zk97, zk99, zk100, zk102, zk122, zk128, zk255, zk800, zk801, zk900, zk999, zk1000, zk1997, zk9999, zk10000, zk100000, zk99999, zk9999999, zk999999999, zk2147483647, zlc0, zlc1, zlc2, zlc3, zlc4, zlc23, zlc99, zlc100, zlc9999999, zlc999999999999, zlc1073741824, zi_neg, zi_add, zi_sub, zi_mul, zl_neg, zl_add, zl_sub, zl_mul, zi_toInt, zi_nat, zi_le, zi_lt, zi_eq, zl_le, zl_lt, zl_eq, zl_toInt, zl_of32, zi_of64, zi_div, zl_div, zmodI, ↓reduceIte, zTle, zFle, zTlt, zFlt, zTeq, zFeq, if_true, if_false, and_self, and_true, true_and, and_false, false_and, or_self, or_true, true_or, or_false, false_or, not_true_eq_false, not_false_eq_true, zcastA, zcastL, znatC, zab, Int.reduceAdd, Int.reduceSub, Int.reduceMul, Int.reduceNeg, Int.reduceToNat, Nat.reduceAdd]
    · unfold wmn wmx
      by_cases y : j = k
      · subst y
        rw [if_pos rfl, if_pos rfl]
        refine ⟨⟨?_, ?_⟩, ?_, ?_⟩
        · simp (disch := omega) only [zup_at, upd_eq, upd_ne, ne_eq, Nat.reduceEqDiff, ↓reduceIte, if_true, if_false]
        · split <;> omega
        · simp (disch := omega) only [zup_at, upd_eq, upd_ne, ne_eq, Nat.reduceEqDiff, ↓reduceIte, if_true, if_false]
        · split <;> omega
      · rw [if_neg (show ¬ (j : Int) = (k : Int) by omega), if_neg (show ¬ (j : Int) = (k : Int) by omega)]
        obtain ⟨⟨c1, c2, c3⟩, e1, e2, e3⟩ := hR j hj hjb
        refine ⟨⟨?_, c2, c3⟩, ?_, e2, e3⟩
        · simp (disch := omega) only [zup_at, upd_eq, upd_ne, ne_eq, Nat.reduceEqDiff, ↓reduceIte, if_true, if_false]; exact c1
        · simp (disch := omega) only [zup_at, upd_eq, upd_ne, ne_eq, Nat.reduceEqDiff, ↓reduceIte, if_true, if_false]; exact e1
    · have : j ≠ k := fun q => hj (by rw [q]; exact kb)
      refine ⟨?_, ?_⟩ <;> simp (disch := omega) only [zup_at, upd_eq, upd_ne, ne_eq, Nat.reduceEqDiff, ↓reduceIte, if_true, if_false]
    · simp (disch := omega) only [zup_at, upd_eq, upd_ne, ne_eq, Nat.reduceEqDiff, ↓reduceIte, if_true, if_false]
theorem vlM_b (h : LV ln n) (b : Nat) {i : Nat} (hi : i < n) {x y : Int} (hx : 0 ≤ x ∧ x ≤ 99) (hy : 0 ≤ y ∧ y ≤ 99) : 0 ≤ vlM ln n b (i : Int) x y ∧ vlM ln n b (i : Int) x y ≤ 79199208 ∧ (ln i).2.2.2.1 ≤ vlM ln n b (i : Int) x y := by
  have v := (h.1 i hi).2.2.2.1
  have u : ∀ j, 0 ≤ mU (mkF ln b n) j ∧ mU (mkF ln b n) j ≤ 99999 := fun j => by
    rcases mk_r h b j with ⟨_, a, _⟩ | ⟨_, _, _, _, a, _, _⟩ <;> omega
  have p0 := mul_99 (u 0) hx
  have p1 := mul_99 (u 1) hy
  unfold vlM
  show 0 ≤ (ln i).2.2.2.1 + _ + _ ∧ (ln i).2.2.2.1 + _ + _ ≤ 79199208 ∧ (ln i).2.2.2.1 ≤ (ln i).2.2.2.1 + _ + _
  split <;> split <;> omega
theorem F_wmk (d len : Nat) {M : zMu} (ν : zNu) (h : LV ln n) (hn : n ≤ 24) (hD : DBd M ln n) (hb : b < n) (hbb : bkF ln b = b) {A B : Nat → Int} (hR : RW ln n b M A B) (j : Nat) {x y : Int} (hx : 0 ≤ x ∧ x ≤ 99) (hy : 0 ≤ y ∧ y ≤ 99) : ∃ M', zF zT0 (d + 2) 24 [.ref 11, .int (zi (mL (mkF ln b n) j)), .int (zi (b : Int)), .int (zi x), .int (zi y)] (zm len M ν) = some (.null, zm len M' ν) ∧ RW ln n b M' (wmn A (mL (mkF ln b n) j) (vlM ln n b (mL (mkF ln b n) j) x y)) (wmx B (mL (mkF ln b n) j) (vlM ln n b (mL (mkF ln b n) j) x y)) ∧ frB ln b M M' := by
  have zm1 : (-1 : Int32) = zi (-1) := rfl
  rcases mk_r h b j with ⟨a, _, _⟩ | ⟨i, a, hi, hib, u, w, mem⟩
  · rw [a]
    refine ⟨M, ?_, fun k hk hkb => ?_, frB_rf ln b M⟩
    · rw [B_X1_widenMarked]
      simp (disch := omega) only [zm1, B_X1_widenMarked_90, zbi_some, zbl_some, zbv_some, zbi_none, zbl_none, zbv_none, zbi_ite, zbl_ite, zbv_ite, zbZ, zbO, zc_lt, zc_le, zc_ge, zc_gt, zc_eq, zk0, zk1, zk2, zk3, zk4, zk5, zk6, zk7, zk8, zk9, zk10, zk11, zk12, zk14, zk15, zk16, zk17, zk19, zk20, zk21, zk24, zk25, zk30, zk32, zk36, zk40, zk45, zk50, zk64, zk97, zk99, zk100, zk102, zk122, zk128, zk255, zk800, zk801, zk900, zk999, zk1000, zk1997, zk9999, zk10000, zk100000, zk99999, zk9999999, zk999999999, zk2147483647, zlc0, zlc1, zlc2, zlc3, zlc4, zlc23, zlc99, zlc100, zlc9999999, zlc999999999999, zlc1073741824, zi_neg, zi_add, zi_sub, zi_mul, zl_neg, zl_add, zl_sub, zl_mul, zi_toInt, zi_nat, zi_le, zi_lt, zi_eq, zl_le, zl_lt, zl_eq, zl_toInt, zl_of32, zi_of64, zi_div, zl_div, zmodI, ↓reduceIte, zTle, zFle, zTlt, zFlt, zTeq, zFeq, if_true, if_false, and_self, and_true, true_and, and_false, false_and, or_self, or_true, true_or, or_false, false_or, not_true_eq_false, not_false_eq_true, zcastA, zcastL, znatC, zab, Int.reduceAdd, Int.reduceSub, Int.reduceMul, Int.reduceNeg, Int.reduceToNat, Nat.reduceAdd]
    · unfold wmn wmx
      rw [if_neg (by omega), if_neg (by omega)]
      exact hR k hk hkb
  · rw [a]
    have vb := vlM_b h b hi hx hy
    obtain ⟨M', W, W1, W2⟩ := F_wid d len ν hR (i := (i : Int)) (lo := vlM ln n b (i : Int) x y) (hi := vlM ln n b (i : Int) x y) hn (Or.inr ⟨i, rfl, hi, hib⟩) (by omega) (by omega)
    refine ⟨M', ?_, W1, W2⟩
    obtain ⟨m01, m02, m03⟩ := (hD.2.2.2 b hb hbb).2.2.2.2.2 0 (by decide)
    obtain ⟨m11, m12, m13⟩ := (hD.2.2.2 b hb hbb).2.2.2.2.2 1 (by decide)
    rw [Nat.add_zero] at m01 m02 m03
    have e14 := (hD.2.1 i hi).2.2.1
    have i0 : (2 * (b : Int)).toNat = 2 * b := by omega
    have i1 : (2 * (b : Int) + 1).toNat = 2 * b + 1 := by omega
    have r0 : -1 ≤ mL (mkF ln b n) 0 ∧ mL (mkF ln b n) 0 ≤ 24 := by
      rcases mk_r h b 0 with ⟨q, _, _⟩ | ⟨_, q, _⟩ <;> omega
    have r1 : -1 ≤ mL (mkF ln b n) 1 ∧ mL (mkF ln b n) 1 ≤ 24 := by
      rcases mk_r h b 1 with ⟨q, _, _⟩ | ⟨_, q, _⟩ <;> omega
    unfold vlM at W
    have tn : ((i : Int)).toNat = i := rfl
    rw [tn] at W
    rw [B_X1_widenMarked]
    by_cases c0 : mL (mkF ln b n) 0 = (i : Int)
    · rw [if_pos c0] at W
      by_cases c1 : mL (mkF ln b n) 1 = (i : Int)
      · rw [if_pos c1] at W
        simp (disch := omega) only [zm1, i0, i1, m01, m02, m11, m12, c0, c1, e14, B_X1_widenMarked_44, B_X1_widenMarked_78, W, B_X1_widenMarked_90, zbi_some, zbl_some, zbv_some, zbi_none, zbl_none, zbv_none, zbi_ite, zbl_ite, zbv_ite, zbZ, zbO, zc_lt, zc_le, zc_ge, zc_gt, zc_eq, zk0, zk1, zk2, zk3, zk4, zk5, zk6, zk7, zk8, zk9, zk10, zk11, zk12, zk14, zk15, zk16, zk17, zk19, zk20, zk21, zk24, zk25, zk30, zk32, zk36, zk40, zk45, zk50, zk64, zk97, zk99, zk100, zk102, zk122, zk128, zk255, zk800, zk801, zk900, zk999, zk1000, zk1997, zk9999, zk10000, zk100000, zk99999, zk9999999, zk999999999, zk2147483647, zlc0, zlc1, zlc2, zlc3, zlc4, zlc23, zlc99, zlc100, zlc9999999, zlc999999999999, zlc1073741824, zi_neg, zi_add, zi_sub, zi_mul, zl_neg, zl_add, zl_sub, zl_mul, zi_toInt, zi_nat, zi_le, zi_lt, zi_eq, zl_le, zl_lt, zl_eq, zl_toInt, zl_of32, zi_of64, zi_div, zl_div, zmodI, ↓reduceIte, zTle, zFle, zTlt, zFlt, zTeq, zFeq, if_true, if_false, and_self, and_true, true_and, and_false, false_and, or_self, or_true, true_or, or_false, false_or, not_true_eq_false, not_false_eq_true, zcastA, zcastL, znatC, zab, Int.reduceAdd, Int.reduceSub, Int.reduceMul, Int.reduceNeg, Int.reduceToNat, Nat.reduceAdd]
      · rw [if_neg c1] at W
        simp (disch := omega) only [zm1, i0, i1, m01, m02, m11, m12, c0, c1, e14, B_X1_widenMarked_44, B_X1_widenMarked_78, W, B_X1_widenMarked_90, zbi_some, zbl_some, zbv_some, zbi_none, zbl_none, zbv_none, zbi_ite, zbl_ite, zbv_ite, zbZ, zbO, zc_lt, zc_le, zc_ge, zc_gt, zc_eq, zk0, zk1, zk2, zk3, zk4, zk5, zk6, zk7, zk8, zk9, zk10, zk11, zk12, zk14, zk15, zk16, zk17, zk19, zk20, zk21, zk24, zk25, zk30, zk32, zk36, zk40, zk45, zk50, zk64, zk97, zk99, zk100, zk102, zk122, zk128, zk255, zk800, zk801, zk900, zk999, zk1000, zk1997, zk9999, zk10000, zk100000, zk99999, zk9999999, zk999999999, zk2147483647, zlc0, zlc1, zlc2, zlc3, zlc4, zlc23, zlc99, zlc100, zlc9999999, zlc999999999999, zlc1073741824, zi_neg, zi_add, zi_sub, zi_mul, zl_neg, zl_add, zl_sub, zl_mul, zi_toInt, zi_nat, zi_le, zi_lt, zi_eq, zl_le, zl_lt, zl_eq, zl_toInt, zl_of32, zi_of64, zi_div, zl_div, zmodI, ↓reduceIte, zTle, zFle, zTlt, zFlt, zTeq, zFeq, if_true, if_false, and_self, and_true, true_and, and_false, false_and, or_self, or_true, true_or, or_false, false_or, not_true_eq_false, not_false_eq_true, zcastA, zcastL, znatC, zab, Int.reduceAdd, Int.reduceSub, Int.reduceMul, Int.reduceNeg, Int.reduceToNat, Nat.reduceAdd]
    · rw [if_neg c0] at W
      by_cases c1 : mL (mkF ln b n) 1 = (i : Int)
      · rw [if_pos c1] at W
        simp (disch := omega) only [zm1, i0, i1, m01, m02, m11, m12, c0, c1, e14, B_X1_widenMarked_44, B_X1_widenMarked_78, W, B_X1_widenMarked_90, zbi_some, zbl_some, zbv_some, zbi_none, zbl_none, zbv_none, zbi_ite, zbl_ite, zbv_ite, zbZ, zbO, zc_lt, zc_le, zc_ge, zc_gt, zc_eq, zk0, zk1, zk2, zk3, zk4, zk5, zk6, zk7, zk8, zk9, zk10, zk11, zk12, zk14, zk15, zk16, zk17, zk19, zk20, zk21, zk24, zk25, zk30, zk32, zk36, zk40, zk45, zk50, zk64, zk97, zk99, zk100, zk102, zk122, zk128, zk255, zk800, zk801, zk900, zk999, zk1000, zk1997, zk9999, zk10000, zk100000, zk99999, zk9999999, zk999999999, zk2147483647, zlc0, zlc1, zlc2, zlc3, zlc4, zlc23, zlc99, zlc100, zlc9999999, zlc999999999999, zlc1073741824, zi_neg, zi_add, zi_sub, zi_mul, zl_neg, zl_add, zl_sub, zl_mul, zi_toInt, zi_nat, zi_le, zi_lt, zi_eq, zl_le, zl_lt, zl_eq, zl_toInt, zl_of32, zi_of64, zi_div, zl_div, zmodI, ↓reduceIte, zTle, zFle, zTlt, zFlt, zTeq, zFeq, if_true, if_false, and_self, and_true, true_and, and_false, false_and, or_self, or_true, true_or, or_false, false_or, not_true_eq_false, not_false_eq_true, zcastA, zcastL, znatC, zab, Int.reduceAdd, Int.reduceSub, Int.reduceMul, Int.reduceNeg, Int.reduceToNat, Nat.reduceAdd]
      · rw [if_neg c1] at W
        simp (disch := omega) only [zm1, i0, i1, m01, m02, m11, m12, c0, c1, e14, B_X1_widenMarked_44, B_X1_widenMarked_78, W, B_X1_widenMarked_90, zbi_some, zbl_some, zbv_some, zbi_none, zbl_none, zbv_none, zbi_ite, zbl_ite, zbv_ite, zbZ, zbO, zc_lt, zc_le, zc_ge, zc_gt, zc_eq, zk0, zk1, zk2, zk3, zk4, zk5, zk6, zk7, zk8, zk9, zk10, zk11, zk12, zk14, zk15, zk16, zk17, zk19, zk20, zk21, zk24, zk25, zk30, zk32, zk36, zk40, zk45, zk50, zk64, zk97, zk99, zk100, zk102, zk122, zk128, zk255, zk800, zk801, zk900, zk999, zk1000, zk1997, zk9999, zk10000, zk100000, zk99999, zk9999999, zk999999999, zk2147483647, zlc0, zlc1, zlc2, zlc3, zlc4, zlc23, zlc99, zlc100, zlc9999999, zlc999999999999, zlc1073741824, zi_neg, zi_add, zi_sub, zi_mul, zl_neg, zl_add, zl_sub, zl_mul, zi_toInt, zi_nat, zi_le, zi_lt, zi_eq, zl_le, zl_lt, zl_eq, zl_toInt, zl_of32, zi_of64, zi_div, zl_div, zmodI, ↓reduceIte, zTle, zFle, zTlt, zFlt, zTeq, zFeq, if_true, if_false, and_self, and_true, true_and, and_false, false_and, or_self, or_true, true_or, or_false, false_or, not_true_eq_false, not_false_eq_true, zcastA, zcastL, znatC, zab, Int.reduceAdd, Int.reduceSub, Int.reduceMul, Int.reduceNeg, Int.reduceToNat, Nat.reduceAdd]
end SC

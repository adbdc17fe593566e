/-! TABLET kept, the class's -/
def kst (R : Nat → Int32) (v : Nat → Int) (k m : Nat) : Nat → Int32 := fun j => if 24 * k ≤ j ∧ j < 24 * k + m then zi (v (j - 24 * k)) else R j
theorem kst_S (R : Nat → Int32) (v : Nat → Int) (k m : Nat) {x : Int} (hx : x = v m) : upd (kst R v k m) (24 * k + m) (zi x) = kst R v k (m + 1) := by
  funext j
  unfold kst
  by_cases z : j = 24 * k + m
  · subst z
    rw [upd_eq, if_pos ⟨by omega, by omega⟩, Nat.add_sub_cancel_left, hx]
  · rw [upd_ne _ _ z]
    by_cases w : 24 * k ≤ j ∧ j < 24 * k + m
    · rw [if_pos w, if_pos ⟨w.1, by omega⟩]
    · rw [if_neg w, if_neg (fun q => w ⟨q.1, by omega⟩)]
theorem kst_0 (R : Nat → Int32) (v : Nat → Int) (k : Nat) : kst R v k 0 = R := by
  funext j
  unfold kst
  rw [if_neg (fun q => by omega)]
theorem kst_i (R : Nat → Int32) (v : Nat → Int) (k : Nat) {m i : Nat} (h : i < m) : kst R v k m (24 * k + i) = zi (v i) := by
  unfold kst
  rw [if_pos ⟨by omega, by omega⟩, Nat.add_sub_cancel_left]
theorem kst_o (R : Nat → Int32) (v : Nat → Int) (k m : Nat) {j : Nat} (h : j < 24 * k ∨ 24 * k + m ≤ j) : kst R v k m j = R j := by
  unfold kst
  rw [if_neg (fun q => by omega)]
def keepM (M : zMu) (ln : Nat → Ln) (n k m : Nat) (y : Int32) : zMu := zrw (zrw (zrw (zrw (zrw (zup (zup M 28 k y) 29 k (zi (n : Int))) 30 (kst (M 30) (fun i => (ln i).1) k m)) 31 (kst (M 31) (fun i => (ln i).2.1) k m)) 32 (kst (M 32) (fun i => sLo ln n (bkF ln i) i) k m)) 33 (kst (M 33) (fun i => sHi ln n (bkF ln i) i) k m)) 34 (kst (M 34) (fun i => fiF ln n (bkF ln i)) k m)
theorem F_keep (d len : Nat) {M : zMu} (ν : zNu) {ln : Nat → Ln} {n : Nat} (hn : n ≤ 24) (hD : DBd M ln n) (hS : ∀ c, c < n → bkF ln c = c → SolB ln n c M) {k : Nat} (hk : k < 12) (y : Int32) (hH : ∀ μ, zF zT0 (d + 3) 111 [.ref 27, .int (zi (k : Int))] (zm len μ ν) = some (.int (zi 1), zm len μ ν)) : zF zT0 (d + 4) 112 [.ref 27, .int (zi (k : Int)), .ref 11, .int y] (zm len M ν) = some (.null, zm len (keepM M ln n k n y) ν) := by
  have e11 := hD.1
  have Lp : ∀ q m : Nat, m + q = n → ∀ v : Value, zE zc_X9_keep (zF zT0 (d + 3)) 28 [.ref 27, .int (zi (k : Int)), .ref 11, .int y, .int (zi (m : Int)), v] [] (zm len (keepM M ln n k m y) ν) = some (.null, zm len (keepM M ln n k n y) ν) := by
    intro q
    induction q with
    | zero =>
      intro m hm v
      have : m = n := by omega
      subst this
      rw [B_X9_keep_28]
      simp (disch := omega) only [keepM, zrw_n, zup_ne, e11, zbi_some, zbl_some, zbv_some, zbi_none, zbl_none, zbv_none, zbi_ite, zbl_ite, zbv_ite, zbZ, zbO, zc_lt, zc_le, zc_ge, zc_gt, zc_eq, zk0, zk1, zk2, zk3, zk4, zk5, zk6, zk7, zk8, zk9, zk10, zk11, zk12, zk14, zk15, zk16, zk17, zk19, zk20, zk21, zk24, zk25, zk30, zk32, zk36, zk40, zk45, zk50, zk64, zk97, zk99, zk100, zk102, zk122, zk128, zk255, zk800, zk801, zk900, zk999, zk1000, zk1997, zk9999, zk10000, zk100000, zk99999, zk9999999, zk999999999, zk2147483647, zlc0, zlc1, zlc2, zlc3, zlc4, zlc23, zlc99, zlc100, zlc9999999, zlc999999999999, zlc1073741824, zi_neg, zi_add, zi_sub, zi_mul, zl_neg, zl_add, zl_sub, zl_mul, zi_toInt, zi_nat, zi_le, zi_lt, zi_eq, zl_le, zl_lt, zl_eq, zl_toInt, zl_of32, zi_of64, zi_div, zl_div, zmodI, ↓reduceIte, zTle, zFle, zTlt, zFlt, zTeq, zFeq, if_true, if_false, and_self, and_true, true_and, and_false, false_and, or_self, or_true, true_or, or_false, false_or, not_true_eq_false, not_false_eq_true, zcastA, zcastL, znatC, zab, Int.reduceAdd, Int.reduceSub, Int.reduceMul, Int.reduceNeg, Int.reduceToNat, Nat.reduceAdd]
    | succ q ih =>
      intro m hm v
      obtain ⟨e12, e13, e14, e17⟩ := hD.2.1 m (by omega)
      have bl := bkF_le ln m
      obtain ⟨s21, sl⟩ := hS (bkF ln m) (by omega) (bkF_b ln m).1
      obtain ⟨s15, s16⟩ := sl m (by omega) rfl
      have S30 := kst_S (M 30) (fun i => (ln i).1) k m (x := (ln m).1) rfl
      have S31 := kst_S (M 31) (fun i => (ln i).2.1) k m (x := (ln m).2.1) rfl
      have S32 := kst_S (M 32) (fun i => sLo ln n (bkF ln i) i) k m (x := sLo ln n (bkF ln m) m) rfl
      have S33 := kst_S (M 33) (fun i => sHi ln n (bkF ln i) i) k m (x := sHi ln n (bkF ln m) m) rfl
      have S34 := kst_S (M 34) (fun i => fiF ln n (bkF ln i)) k m (x := fiF ln n (bkF ln m)) rfl
      have ix : ((k : Int) * 24 + (m : Int)).toNat = 24 * k + m := by omega
      have ih' := ih (m + 1) (by omega) (.int (zi ((k : Int) * 24 + (m : Int))))
      rw [B_X9_keep_28]
      unfold keepM at ih' ⊢
      simp (disch := omega) only [zrw_n, zrw_s, zup_ne, e11, e12, e13, e17, ix, s15, s16, s21, zup_zrw_n, zup_zrw, S30, S31, S32, S33, S34, B_X9_keep_121, zbi_some, zbl_some, zbv_some, zbi_none, zbl_none, zbv_none, zbi_ite, zbl_ite, zbv_ite, zbZ, zbO, zc_lt, zc_le, zc_ge, zc_gt, zc_eq, zk0, zk1, zk2, zk3, zk4, zk5, zk6, zk7, zk8, zk9, zk10, zk11, zk12, zk14, zk15, zk16, zk17, zk19, zk20, zk21, zk24, zk25, zk30, zk32, zk36, zk40, zk45, zk50, zk64, zk97, zk99, zk100, zk102, zk122, zk128, zk255, zk800, zk801, zk900, zk999, zk1000, zk1997, zk9999, zk10000, zk100000, zk99999, zk9999999, zk999999999, zk2147483647, zlc0, zlc1, zlc2, zlc3, zlc4, zlc23, zlc99, zlc100, zlc9999999, zlc999999999999, zlc1073741824, zi_neg, zi_add, zi_sub, zi_mul, zl_neg, zl_add, zl_sub, zl_mul, zi_toInt, zi_nat, zi_le, zi_lt, zi_eq, zl_le, zl_lt, zl_eq, zl_toInt, zl_of32, zi_of64, zi_div, zl_div, zmodI, ↓reduceIte, zTle, zFle, zTlt, zFlt, zTeq, zFeq, if_true, if_false, and_self, and_true, true_and, and_false, false_and, or_self, or_true, true_or, or_false, false_or, not_true_eq_false, not_false_eq_true, zcastA, zcastL, znatC, zab, Int.reduceAdd, Int.reduceSub, Int.reduceMul, Int.reduceNeg, Int.reduceToNat, Nat.reduceAdd]
      exact ih'
  rw [B_X9_keep]
  show zbi (zF zT0 (d + 3) 111 [.ref 27, .int (zi (k : Int))] (zm len M ν)) _ = _
  rw [hH M, zbi_some, B_X9_keep_5, if_neg zz_10]
  have L0 := Lp n 0 (by omega) zU
  unfold keepM at L0 ⊢
  rw [kst_0, kst_0, kst_0, kst_0, kst_0] at L0
  have i30 : zrw (zrw (zrw (zrw (zrw (zup (zup M 28 k y) 29 k (zi (n : Int))) 30 (M 30)) 31 (M 31)) 32 (M 32)) 33 (M 33)) 34 (M 34) = zup (zup M 28 k y) 29 k (zi (n : Int)) := by
    funext r
    by_cases a : r = 34
    · rw [a, zrw_s]; simp (disch := omega) only [zup_at, upd_eq, upd_ne, ne_eq, Nat.reduceEqDiff, ↓reduceIte, if_true, if_false]
    · rw [zrw_n _ _ a]
      by_cases a : r = 33
      · rw [a, zrw_s]; simp (disch := omega) only [zup_at, upd_eq, upd_ne, ne_eq, Nat.reduceEqDiff, ↓reduceIte, if_true, if_false]
      · rw [zrw_n _ _ a]
        by_cases a : r = 32
        · rw [a, zrw_s]; simp (disch := omega) only [zup_at, upd_eq, upd_ne, ne_eq, Nat.reduceEqDiff, ↓reduceIte, if_true, if_false]
        · rw [zrw_n _ _ a]
          by_cases a : r = 31
          · rw [a, zrw_s]; simp (disch := omega) only [zup_at, upd_eq, upd_ne, ne_eq, Nat.reduceEqDiff, ↓reduceIte, if_true, if_false]
          · rw [zrw_n _ _ a]
            by_cases a : r = 30
            · rw [a, zrw_s]; simp (disch := omega) only [zup_at, upd_eq, upd_ne, ne_eq, Nat.reduceEqDiff, ↓reduceIte, if_true, if_false]
            · rw [zrw_n _ _ a]
  rw [i30] at L0
  simp (disch := omega) only [e11, zbi_some, zbl_some, zbv_some, zbi_none, zbl_none, zbv_none, zbi_ite, zbl_ite, zbv_ite, zbZ, zbO, zc_lt, zc_le, zc_ge, zc_gt, zc_eq, zk0, zk1, zk2, zk3, zk4, zk5, zk6, zk7, zk8, zk9, zk10, zk11, zk12, zk14, zk15, zk16, zk17, zk19, zk20, zk21, zk24, zk25, zk30, zk32, zk36, zk40, zk45, zk50, zk64, zk97, zk99, zk100, zk102, zk122, zk128, zk255, zk800, zk801, zk900, zk999, zk1000, zk1997, zk9999, zk10000, zk100000, zk99999, zk9999999, zk999999999, zk2147483647, zlc0, zlc1, zlc2, zlc3, zlc4, zlc23, zlc99, zlc100, zlc9999999, zlc999999999999, zlc1073741824, zi_neg, zi_add, zi_sub, zi_mul, zl_neg, zl_add, zl_sub, zl_mul, zi_toInt, zi_nat, zi_le, zi_lt, zi_eq, zl_le, zl_lt, zl_eq, zl_toInt, zl_of32, zi_of64, zi_div, zl_div, zmodI, ↓reduceIte, zTle, zFle, zTlt, zFlt, zTeq, zFeq, if_true, if_false, and_self, and_true, true_and, and_false, false_and, or_self, or_true, true_or, or_false, false_or, not_true_eq_false, not_false_eq_true, zcastA, zcastL, znatC, zab, Int.reduceAdd, Int.reduceSub, Int.reduceMul, Int.reduceNeg, Int.reduceToNat, Nat.reduceAdd]
  exact L0

/-! RINGS: the class's side -/
def nz62 (x0 x1 : Int32) : Int32 := (if x0 ≤ (4 : Int32) then ((x1 + ((x0).toUInt32 >>> (((1 : Int32)).toUInt32 &&& Int32.toUInt32 31)).toInt32)) else (((x1 + (2 : Int32)) + ((((x0).toUInt32 >>> (((2 : Int32)).toUInt32 &&& Int32.toUInt32 31)).toInt32).toUInt32 >>> (((1 : Int32)).toUInt32 &&& Int32.toUInt32 31)).toInt32)))
def nz49 (x0 x1 : Int32) : Int32 := (if x0 ≤ (16 : Int32) then nz62 x0 x1 else nz62 ((x0).toUInt32 >>> (((4 : Int32)).toUInt32 &&& Int32.toUInt32 31)).toInt32 (x1 + (4 : Int32)))
def nz34 (x0 x1 : Int32) : Int32 := (if x0 ≤ (256 : Int32) then nz49 x0 x1 else nz49 ((x0).toUInt32 >>> (((8 : Int32)).toUInt32 &&& Int32.toUInt32 31)).toInt32 (x1 + (8 : Int32)))
def nz0 (a0 : Int32) : Int32 := (if 0 < ((a0 ^^^ (-1 : Int32)) &&& (a0 - (1 : Int32))) then (if ((a0 ^^^ (-1 : Int32)) &&& (a0 - (1 : Int32))) ≤ (65536 : Int32) then nz34 ((a0 ^^^ (-1 : Int32)) &&& (a0 - (1 : Int32))) (1 : Int32) else nz34 ((((a0 ^^^ (-1 : Int32)) &&& (a0 - (1 : Int32)))).toUInt32 >>> (((16 : Int32)).toUInt32 &&& Int32.toUInt32 31)).toInt32 ((1 : Int32) + (16 : Int32))) else ((((a0 ^^^ (-1 : Int32)) &&& (a0 - (1 : Int32))) &&& (32 : Int32))))
theorem F_ntz (d len : Nat) (μ : zMu) (ν : zNu) (a : Int32) : zF zT0 (d + 1) 294 [.int a] (zm len μ ν) = some (.int (nz0 a), zm len μ ν) := by
  have h62 : ∀ x y, zE zc_J6_numberOfTrailingZeros_0f7a4 (zF zT0 d) 62 [.int x, .int y] [] (zm len μ ν) = some (.int (nz62 x y), zm len μ ν) := fun x y => by
    rw [B_J6_numberOfTrailingZeros_0f7a4_62]
    unfold nz62
    split <;> rfl
  have h49 : ∀ x y, zE zc_J6_numberOfTrailingZeros_0f7a4 (zF zT0 d) 49 [.int x, .int y] [] (zm len μ ν) = some (.int (nz49 x y), zm len μ ν) := fun x y => by
    rw [B_J6_numberOfTrailingZeros_0f7a4_49, h62, h62]
    unfold nz49
    split <;> rfl
  have h34 : ∀ x y, zE zc_J6_numberOfTrailingZeros_0f7a4 (zF zT0 d) 34 [.int x, .int y] [] (zm len μ ν) = some (.int (nz34 x y), zm len μ ν) := fun x y => by
    rw [B_J6_numberOfTrailingZeros_0f7a4_34, h49, h49]
    unfold nz34
    split <;> rfl
  rw [B_J6_numberOfTrailingZeros_0f7a4]
  show (if _ then (if _ then _ else _) else _) = _
  rw [h34, h34]
  unfold nz0
  split
  · split <;> rfl
  · rfl
theorem nz0_ok : ∀ x : Nat, x < 1024 → x ≠ 0 → nz0 (Int32.ofNat x) = Int32.ofNat (lst (fun q => x.testBit q) 10 0) := by decide +kernel
theorem lst_uni {P : Nat → Bool} {a b : Nat} (ha : P a = true) (ha' : ∀ q, q < a → P q = false) (hb : P b = true) (hb' : ∀ q, q < b → P q = false) : a = b := by
  rcases Nat.lt_trichotomy a b with h | h | h
  · rw [hb' a h] at ha
    cases ha
  · exact h
  · rw [ha' b h] at hb
    cases hb
theorem bk_in (d len n : Nat) (ν : zNu) (U : Nat → Nat) (μ : zMu) (x1 x2 : Int32) (i r : Nat) (v4 : Value) (hR : Rs n U (μ 46)) (hc : μ 45 0 = zi (n : Int)) (hi : 1 ≤ i ∧ i ≤ 10) (hr : μ 50 (i - 1) = zi (r : Int)) (hr2 : r < 2 ^ 10) : ∃ v4' : Value, zE zc_X8_findWaysBack (zF zT0 d) 26 [.ref 45, .int x1, .int x2, .int (zi (i : Int)), .int (zi 0)] [] (zm len (zrw μ 50 (upd (μ 50) i (zi 0))) ν) = zE zc_X8_findWaysBack (zF zT0 d) 11 [.ref 45, .int x1, .int x2, .int (zi ((i + 1 : Nat) : Int)), v4'] [] (zm len (zrw μ 50 (upd (μ 50) i (zi (mkm (fun p => decide (U p &&& r ≠ 0)) n : Int)))) ν) := by
  have hp : 2 ^ n ≤ 2 ^ 10 := Nat.pow_le_pow_right (by decide) hR.1
  have n10 := hR.1
  have ix : ((i : Int) - 1).toNat = i - 1 := by omega
  have e45 : ∀ f, (zrw μ 50 f) 45 0 = zi (n : Int) := fun f => by rw [zrw_n _ _ (by decide)]; exact hc
  have K := zloop (f := fun p => zE zc_X8_findWaysBack (zF zT0 d) 26 [.ref 45, .int x1, .int x2, .int (zi (i : Int)), .int (zi (p : Int))] [] (zm len (zrw μ 50 (upd (μ 50) i (zi (mkm (fun p => decide (U p &&& r ≠ 0)) p : Int)))) ν)) (n := n) (fun p hp => by
    have u := hR.2 p
    have u2 := u.2.1
    have e46 : ∀ f, (zrw μ 50 f) 46 p = zi (U p : Int) := fun f => by rw [zrw_n _ _ (by decide)]; exact u.1
    have e50 : ∀ x, (zrw μ 50 (upd (μ 50) i x)) 50 (i - 1) = zi (r : Int) := fun x => by rw [zrw_s, upd_ne _ _ (by omega)]; exact hr
    have e51 : ∀ x, (zrw μ 50 (upd (μ 50) i x)) 50 i = x := fun x => by rw [zrw_s, upd_eq]
    have al : U p &&& r < 2 ^ 10 := Nat.and_lt_two_pow _ hr2
    show zE _ _ _ _ _ _ = zE _ _ _ _ _ _
    rw [B_X8_findWaysBack_26]
    by_cases z : U p &&& r = 0
    · have ez : mkm (fun p => decide (U p &&& r ≠ 0)) (p + 1) = mkm (fun p => decide (U p &&& r ≠ 0)) p := by
        show (if decide (U p &&& r ≠ 0) = true then _ else _) = _
        rw [if_neg (by simp [z])]
      rw [ez]
      simp (disch := omega) only [e45, e46, ix, e50, zb_andN, z, B_X8_findWaysBack_67, zbi_some, zbl_some, zbv_some, zbi_none, zbl_none, zbv_none, zbi_ite, zbl_ite, zbv_ite, zbZ, zbO, zc_lt, zc_le, zc_ge, zc_gt, zc_eq, zk0, zk1, zk2, zk3, zk4, zk5, zk6, zk7, zk8, zk9, zk10, zk11, zk12, zk14, zk15, zk16, zk17, zk19, zk20, zk21, zk24, zk25, zk30, zk32, zk36, zk40, zk45, zk50, zk64, zk97, zk99, zk100, zk102, zk122, zk128, zk255, zk800, zk801, zk900, zk999, zk1000, zk1997, zk9999, zk10000, zk100000, zk99999, zk9999999, zk999999999, zk2147483647, zlc0, zlc1, zlc2, zlc3, zlc4, zlc23, zlc99, zlc100, zlc9999999, zlc999999999999, zlc1073741824, zi_neg, zi_add, zi_sub, zi_mul, zl_neg, zl_add, zl_sub, zl_mul, zi_toInt, zi_nat, zi_le, zi_lt, zi_eq, zl_le, zl_lt, zl_eq, zl_toInt, zl_of32, zi_of64, zi_div, zl_div, zmodI, ↓reduceIte, zTle, zFle, zTlt, zFlt, zTeq, zFeq, if_true, if_false, and_self, and_true, true_and, and_false, false_and, or_self, or_true, true_or, or_false, false_or, not_true_eq_false, not_false_eq_true, zcastA, zcastL, znatC, zab, Int.reduceAdd, Int.reduceSub, Int.reduceMul, Int.reduceNeg, Int.reduceToNat, Nat.reduceAdd]
    · have ez : mkm (fun p => decide (U p &&& r ≠ 0)) (p + 1) = mkm (fun p => decide (U p &&& r ≠ 0)) p ||| 2 ^ p := by
        show (if decide (U p &&& r ≠ 0) = true then _ else _) = _
        rw [if_pos (by simp [z])]
      have z' : ¬ ((U p &&& r : Nat) : Int) = 0 := by omega
      rw [ez]
      simp (disch := omega) only [e45, e46, ix, e50, zb_andN, z', e51, zb_shl, zb_orN, zup_zrw, upd_upd, B_X8_findWaysBack_67, zbi_some, zbl_some, zbv_some, zbi_none, zbl_none, zbv_none, zbi_ite, zbl_ite, zbv_ite, zbZ, zbO, zc_lt, zc_le, zc_ge, zc_gt, zc_eq, zk0, zk1, zk2, zk3, zk4, zk5, zk6, zk7, zk8, zk9, zk10, zk11, zk12, zk14, zk15, zk16, zk17, zk19, zk20, zk21, zk24, zk25, zk30, zk32, zk36, zk40, zk45, zk50, zk64, zk97, zk99, zk100, zk102, zk122, zk128, zk255, zk800, zk801, zk900, zk999, zk1000, zk1997, zk9999, zk10000, zk100000, zk99999, zk9999999, zk999999999, zk2147483647, zlc0, zlc1, zlc2, zlc3, zlc4, zlc23, zlc99, zlc100, zlc9999999, zlc999999999999, zlc1073741824, zi_neg, zi_add, zi_sub, zi_mul, zl_neg, zl_add, zl_sub, zl_mul, zi_toInt, zi_nat, zi_le, zi_lt, zi_eq, zl_le, zl_lt, zl_eq, zl_toInt, zl_of32, zi_of64, zi_div, zl_div, zmodI, ↓reduceIte, zTle, zFle, zTlt, zFlt, zTeq, zFeq, if_true, if_false, and_self, and_true, true_and, and_false, false_and, or_self, or_true, true_or, or_false, false_or, not_true_eq_false, not_false_eq_true, zcastA, zcastL, znatC, zab, Int.reduceAdd, Int.reduceSub, Int.reduceMul, Int.reduceNeg, Int.reduceToNat, Nat.reduceAdd])
  have K0 : zE zc_X8_findWaysBack (zF zT0 d) 26 [.ref 45, .int x1, .int x2, .int (zi (i : Int)), .int (zi 0)] [] (zm len (zrw μ 50 (upd (μ 50) i (zi 0))) ν) = zE zc_X8_findWaysBack (zF zT0 d) 26 [.ref 45, .int x1, .int x2, .int (zi (i : Int)), .int (zi (n : Int))] [] (zm len (zrw μ 50 (upd (μ 50) i (zi (mkm (fun p => decide (U p &&& r ≠ 0)) n : Int)))) ν) := K
  refine ⟨.int (zi (n : Int)), K0.trans ?_⟩
  rw [B_X8_findWaysBack_26]
  simp (disch := omega) only [e45, zbi_some, zbl_some, zbv_some, zbi_none, zbl_none, zbv_none, zbi_ite, zbl_ite, zbv_ite, zbZ, zbO, zc_lt, zc_le, zc_ge, zc_gt, zc_eq, zk0, zk1, zk2, zk3, zk4, zk5, zk6, zk7, zk8, zk9, zk10, zk11, zk12, zk14, zk15, zk16, zk17, zk19, zk20, zk21, zk24, zk25, zk30, zk32, zk36, zk40, zk45, zk50, zk64, zk97, zk99, zk100, zk102, zk122, zk128, zk255, zk800, zk801, zk900, zk999, zk1000, zk1997, zk9999, zk10000, zk100000, zk99999, zk9999999, zk999999999, zk2147483647, zlc0, zlc1, zlc2, zlc3, zlc4, zlc23, zlc99, zlc100, zlc9999999, zlc999999999999, zlc1073741824, zi_neg, zi_add, zi_sub, zi_mul, zl_neg, zl_add, zl_sub, zl_mul, zi_toInt, zi_nat, zi_le, zi_lt, zi_eq, zl_le, zl_lt, zl_eq, zl_toInt, zl_of32, zi_of64, zi_div, zl_div, zmodI, ↓reduceIte, zTle, zFle, zTlt, zFlt, zTeq, zFeq, if_true, if_false, and_self, and_true, true_and, and_false, false_and, or_self, or_true, true_or, or_false, false_or, not_true_eq_false, not_false_eq_true, zcastA, zcastL, znatC, zab, Int.reduceAdd, Int.reduceSub, Int.reduceMul, Int.reduceNeg, Int.reduceToNat, Nat.reduceAdd]
theorem lb_lt {U : Nat → Nat} {n t : Nat} (hn : n ≤ 10) (ht : t < n) : ∀ i, lb U n t i < 2 ^ 10
  | 0 => Nat.pow_lt_pow_right (by decide) (by omega)
  | i + 1 => Nat.lt_of_lt_of_le (mkm_lt _ n) (Nat.pow_le_pow_right (by decide) hn)
theorem bk_out (d len n : Nat) (ν : zNu) (U : Nat → Nat) (μ : zMu) (s L : Nat) (hR : Rs n U (μ 46)) (hc : μ 45 0 = zi (n : Int)) (hs : s < n) (hL : L ≤ 10) : ∀ (m i : Nat) (μ1 : zMu) (v4 : Value), i + m = L + 1 → 1 ≤ i → (∀ r, r ≠ 50 → μ1 r = μ r) → (∀ j, j < i → μ1 50 j = zi (lb U n s j : Int)) → ∃ μ' : zMu, zE zc_X8_findWaysBack (zF zT0 d) 11 [.ref 45, .int (zi (s : Int)), .int (zi (L : Int)), .int (zi (i : Int)), v4] [] (zm len μ1 ν) = some (.null, zm len μ' ν) ∧ (∀ r, r ≠ 50 → μ' r = μ r) ∧ ∀ j, j ≤ L → μ' 50 j = zi (lb U n s j : Int) := by
  intro m
  induction m with
  | zero =>
    intro i μ1 v4 hi h1 e hf
    refine ⟨μ1, ?_, e, fun j hj => hf j (by omega)⟩
    rw [B_X8_findWaysBack_11]
    simp (disch := omega) only [zbi_some, zbl_some, zbv_some, zbi_none, zbl_none, zbv_none, zbi_ite, zbl_ite, zbv_ite, zbZ, zbO, zc_lt, zc_le, zc_ge, zc_gt, zc_eq, zk0, zk1, zk2, zk3, zk4, zk5, zk6, zk7, zk8, zk9, zk10, zk11, zk12, zk14, zk15, zk16, zk17, zk19, zk20, zk21, zk24, zk25, zk30, zk32, zk36, zk40, zk45, zk50, zk64, zk97, zk99, zk100, zk102, zk122, zk128, zk255, zk800, zk801, zk900, zk999, zk1000, zk1997, zk9999, zk10000, zk100000, zk99999, zk9999999, zk999999999, zk2147483647, zlc0, zlc1, zlc2, zlc3, zlc4, zlc23, zlc99, zlc100, zlc9999999, zlc999999999999, zlc1073741824, zi_neg, zi_add, zi_sub, zi_mul, zl_neg, zl_add, zl_sub, zl_mul, zi_toInt, zi_nat, zi_le, zi_lt, zi_eq, zl_le, zl_lt, zl_eq, zl_toInt, zl_of32, zi_of64, zi_div, zl_div, zmodI, ↓reduceIte, zTle, zFle, zTlt, zFlt, zTeq, zFeq, if_true, if_false, and_self, and_true, true_and, and_false, false_and, or_self, or_true, true_or, or_false, false_or, not_true_eq_false, not_false_eq_true, zcastA, zcastL, znatC, zab, Int.reduceAdd, Int.reduceSub, Int.reduceMul, Int.reduceNeg, Int.reduceToNat, Nat.reduceAdd]
  | succ m ih =>
    intro i μ1 v4 hi h1 e hf
    have e46 : μ1 46 = μ 46 := e 46 (by decide)
    have e45 : μ1 45 = μ 45 := e 45 (by decide)
    obtain ⟨v', K⟩ := bk_in d len n ν U μ1 (zi (s : Int)) (zi (L : Int)) i (lb U n s (i - 1)) v4 (by rw [e46]; exact hR) (by rw [e45]; exact hc) (by omega) (hf (i - 1) (by omega)) (lb_lt hR.1 hs _)
    have el : mkm (fun p => decide (U p &&& lb U n s (i - 1) ≠ 0)) n = lb U n s i := by
      obtain ⟨k, hk⟩ : ∃ k, i = k + 1 := ⟨i - 1, by omega⟩
      rw [hk]
      rfl
    rw [el] at K
    obtain ⟨μ', a, b, c⟩ := ih (i + 1) (zrw μ1 50 (upd (μ1 50) i (zi (lb U n s i : Int)))) v' (by omega) (by omega) (fun r h => by rw [zrw_n _ _ h]; exact e r h) (fun j hj => by
      rw [zrw_s]
      by_cases z : j = i
      · rw [z, upd_eq]
      · rw [upd_ne _ _ z]
        exact hf j (by omega))
    refine ⟨μ', ?_, b, c⟩
    rw [← a, ← K, B_X8_findWaysBack_11]
    simp (disch := omega) only [zup_rw, zbi_some, zbl_some, zbv_some, zbi_none, zbl_none, zbv_none, zbi_ite, zbl_ite, zbv_ite, zbZ, zbO, zc_lt, zc_le, zc_ge, zc_gt, zc_eq, zk0, zk1, zk2, zk3, zk4, zk5, zk6, zk7, zk8, zk9, zk10, zk11, zk12, zk14, zk15, zk16, zk17, zk19, zk20, zk21, zk24, zk25, zk30, zk32, zk36, zk40, zk45, zk50, zk64, zk97, zk99, zk100, zk102, zk122, zk128, zk255, zk800, zk801, zk900, zk999, zk1000, zk1997, zk9999, zk10000, zk100000, zk99999, zk9999999, zk999999999, zk2147483647, zlc0, zlc1, zlc2, zlc3, zlc4, zlc23, zlc99, zlc100, zlc9999999, zlc999999999999, zlc1073741824, zi_neg, zi_add, zi_sub, zi_mul, zl_neg, zl_add, zl_sub, zl_mul, zi_toInt, zi_nat, zi_le, zi_lt, zi_eq, zl_le, zl_lt, zl_eq, zl_toInt, zl_of32, zi_of64, zi_div, zl_div, zmodI, ↓reduceIte, zTle, zFle, zTlt, zFlt, zTeq, zFeq, if_true, if_false, and_self, and_true, true_and, and_false, false_and, or_self, or_true, true_or, or_false, false_or, not_true_eq_false, not_false_eq_true, zcastA, zcastL, znatC, zab, Int.reduceAdd, Int.reduceSub, Int.reduceMul, Int.reduceNeg, Int.reduceToNat, Nat.reduceAdd]
theorem F_back (d len n : Nat) (ν : zNu) (U : Nat → Nat) (μ : zMu) (s L : Nat) (hR : Rs n U (μ 46)) (hc : μ 45 0 = zi (n : Int)) (hs : s < n) (hL : L ≤ 10) : ∃ μ' : zMu, zF zT0 (d + 1) 106 [.ref 45, .int (zi (s : Int)), .int (zi (L : Int))] (zm len μ ν) = some (.null, zm len μ' ν) ∧ (∀ r, r ≠ 50 → μ' r = μ r) ∧ ∀ j, j ≤ L → μ' 50 j = zi (lb U n s j : Int) := by
  have n10 := hR.1
  obtain ⟨μ', a, b, c⟩ := bk_out d len n ν U μ s L hR hc hs hL L 1 (zup μ 50 0 (zi ((2 ^ s : Nat) : Int))) zU (by omega) (Nat.le_refl _) (fun r h => by rw [zup_ne _ _ _ h]) (fun j hj => by
    have e : j = 0 := by omega
    rw [e]
    rfl)
  have a' : zE zc_X8_findWaysBack (zF zT0 d) 11 [.ref 45, .int (zi (s : Int)), .int (zi (L : Int)), .int (zi 1), zU] [] (zm len (zup μ 50 0 (zi ((2 ^ s : Nat) : Int))) ν) = _ := a
  refine ⟨μ', ?_, b, c⟩
  rw [B_X8_findWaysBack, ← a']
  simp (disch := omega) only [zb_shl, zbi_some, zbl_some, zbv_some, zbi_none, zbl_none, zbv_none, zbi_ite, zbl_ite, zbv_ite, zbZ, zbO, zc_lt, zc_le, zc_ge, zc_gt, zc_eq, zk0, zk1, zk2, zk3, zk4, zk5, zk6, zk7, zk8, zk9, zk10, zk11, zk12, zk14, zk15, zk16, zk17, zk19, zk20, zk21, zk24, zk25, zk30, zk32, zk36, zk40, zk45, zk50, zk64, zk97, zk99, zk100, zk102, zk122, zk128, zk255, zk800, zk801, zk900, zk999, zk1000, zk1997, zk9999, zk10000, zk100000, zk99999, zk9999999, zk999999999, zk2147483647, zlc0, zlc1, zlc2, zlc3, zlc4, zlc23, zlc99, zlc100, zlc9999999, zlc999999999999, zlc1073741824, zi_neg, zi_add, zi_sub, zi_mul, zl_neg, zl_add, zl_sub, zl_mul, zi_toInt, zi_nat, zi_le, zi_lt, zi_eq, zl_le, zl_lt, zl_eq, zl_toInt, zl_of32, zi_of64, zi_div, zl_div, zmodI, ↓reduceIte, zTle, zFle, zTlt, zFlt, zTeq, zFeq, if_true, if_false, and_self, and_true, true_and, and_false, false_and, or_self, or_true, true_or, or_false, false_or, not_true_eq_false, not_false_eq_true, zcastA, zcastL, znatC, zab, Int.reduceAdd, Int.reduceSub, Int.reduceMul, Int.reduceNeg, Int.reduceToNat, Nat.reduceAdd]
theorem F_walk (d len n : Nat) (ν : zNu) (U : Nat → Nat) (μ : zMu) (s L : Nat) (hR : Rs n U (μ 46)) (hc : μ 45 0 = zi (n : Int)) (hs : s < n) (hL : 2 ≤ L ∧ L ≤ n) (hcl : clo U n L s) (hb : ∀ j, j ≤ L → μ 50 j = zi (lb U n s j : Int)) : ∃ μ' : zMu, zF zT0 (d + 2) 107 [.ref 45, .int (zi (s : Int)), .int (zi (L : Int))] (zm len μ ν) = some (.null, zm len μ' ν) ∧ (∀ r, r ≠ 49 → μ' r = μ r) ∧ ∀ j, j < L → μ' 49 j = zi (wr U n L s j : Int) := by
  have hp : 2 ^ n ≤ 2 ^ 10 := Nat.pow_le_pow_right (by decide) hR.1
  have n10 := hR.1
  have hU := fun p => (hR.2 p).2.1
  obtain ⟨μ0, hμ0⟩ : ∃ m, m = zup μ 49 0 (zi (s : Int)) := ⟨_, rfl⟩
  obtain ⟨R, p1, p2, p3, p4⟩ := zfill_ex (fun j => zi (wr U n L s j : Int)) (μ 49)
  have p1' : upd (μ 49) 0 (zi (wr U n L s 0 : Int)) = R 1 := by
    have := p2 0
    rw [p1] at this
    exact this
  have K : ∀ k, 1 + k ≤ L → ∃ v4 : Value, zE zc_X8_walkRing (zF zT0 (d + 1)) 9 [.ref 45, .int (zi (s : Int)), .int (zi (L : Int)), .int (zi 1), zU] [] (zm len (zrw μ 49 (R 1)) ν) = zE zc_X8_walkRing (zF zT0 (d + 1)) 9 [.ref 45, .int (zi (s : Int)), .int (zi (L : Int)), .int (zi ((1 + k : Nat) : Int)), v4] [] (zm len (zrw μ 49 (R (1 + k))) ν) := by
    intro k
    induction k with
    | zero => exact fun _ => ⟨zU, rfl⟩
    | succ k ih =>
      intro hk
      obtain ⟨v4, h⟩ := ih (by omega)
      obtain ⟨w1, w2⟩ := wr_ok hU hs hcl k (by omega)
      obtain ⟨b1, b2, b3, b4⟩ := wr_S hU w2 (by omega)
      obtain ⟨a, ha⟩ : ∃ a, a = wr U n L s k := ⟨_, rfl⟩
      obtain ⟨b, hb'⟩ : ∃ b, b = wr U n L s (k + 1) := ⟨_, rfl⟩
      rw [← ha] at w1 b2 b4
      rw [← hb'] at b1 b2 b3 b4
      have ub := hU a
      have ab : U a &&& lb U n s (L - (k + 1)) < 1024 := Nat.lt_of_le_of_lt Nat.and_le_left (by omega)
      have anz : U a &&& lb U n s (L - (k + 1)) ≠ 0 := and_nz.mpr ⟨b, b2, b3⟩
      have nz := nz0_ok _ ab anz
      have lu : lst (fun q => (U a &&& lb U n s (L - (k + 1))).testBit q) 10 0 = b := by
        obtain ⟨_, l2, l3, l4⟩ := lst_ok (P := fun q => (U a &&& lb U n s (L - (k + 1))).testBit q) (n := 10) (k := 0) (j := b) (by omega) (by omega) (by show (U a &&& lb U n s (L - (k + 1))).testBit b = true; rw [Nat.testBit_and, b2, b3]; rfl)
        refine lst_uni l3 (fun q hq => l4 q (by omega) hq) (by show (U a &&& lb U n s (L - (k + 1))).testBit b = true; rw [Nat.testBit_and, b2, b3]; rfl) (fun q hq => ?_)
        show (U a &&& lb U n s (L - (k + 1))).testBit q = false
        rw [Nat.testBit_and]
        cases z : (U a).testBit q with
        | false => rfl
        | true => rw [b4 q hq z]; rfl
      rw [lu, ← zi_n, ← zi_n] at nz
      have e49 : (zrw μ 49 (R (1 + k))) 49 k = zi (a : Int) := by rw [zrw_s, p3 (1 + k) k (by omega), ha]
      have e46 : (zrw μ 49 (R (1 + k))) 46 a = zi (U a : Int) := by rw [zrw_n _ _ (by decide)]; exact (hR.2 a).1
      have e50 : (zrw μ 49 (R (1 + k))) 50 (L - (k + 1)) = zi (lb U n s (L - (k + 1)) : Int) := by rw [zrw_n _ _ (by decide)]; exact hb _ (by omega)
      have e45 : (zrw μ 49 (R (1 + k))) 45 0 = zi (n : Int) := by rw [zrw_n _ _ (by decide)]; exact hc
      have i1 : (1 + (k : Int) - 1).toNat = k := by omega
      have i2 : ((L : Int) - (1 + (k : Int))).toNat = L - (k + 1) := by omega
      have i3 : (1 + (k : Int)).toNat = 1 + k := by omega
      have i4 : 1 + (k : Int) + 1 = 1 + ((k : Int) + 1) := by omega
      have u : upd (R (1 + k)) (1 + k) (zi (b : Int)) = R (1 + (k + 1)) := by
        have h := p2 (1 + k)
        rw [hb', show 1 + (k + 1) = 1 + k + 1 by omega, show k + 1 = 1 + k by omega]
        exact h
      refine ⟨.int (zi (b : Int)), h.trans ?_⟩
      rw [B_X8_walkRing_9, ← u]
      simp (disch := omega) only [i1, e49, e46, i2, e50, zb_andN, F_ntz, nz, B_X8_walkRing_39, e45, i3, i4, zup_zrw, zbi_some, zbl_some, zbv_some, zbi_none, zbl_none, zbv_none, zbi_ite, zbl_ite, zbv_ite, zbZ, zbO, zc_lt, zc_le, zc_ge, zc_gt, zc_eq, zk0, zk1, zk2, zk3, zk4, zk5, zk6, zk7, zk8, zk9, zk10, zk11, zk12, zk14, zk15, zk16, zk17, zk19, zk20, zk21, zk24, zk25, zk30, zk32, zk36, zk40, zk45, zk50, zk64, zk97, zk99, zk100, zk102, zk122, zk128, zk255, zk800, zk801, zk900, zk999, zk1000, zk1997, zk9999, zk10000, zk100000, zk99999, zk9999999, zk999999999, zk2147483647, zlc0, zlc1, zlc2, zlc3, zlc4, zlc23, zlc99, zlc100, zlc9999999, zlc999999999999, zlc1073741824, zi_neg, zi_add, zi_sub, zi_mul, zl_neg, zl_add, zl_sub, zl_mul, zi_toInt, zi_nat, zi_le, zi_lt, zi_eq, zl_le, zl_lt, zl_eq, zl_toInt, zl_of32, zi_of64, zi_div, zl_div, zmodI, ↓reduceIte, zTle, zFle, zTlt, zFlt, zTeq, zFeq, if_true, if_false, and_self, and_true, true_and, and_false, false_and, or_self, or_true, true_or, or_false, false_or, not_true_eq_false, not_false_eq_true, zcastA, zcastL, znatC, zab, Int.reduceAdd, Int.reduceSub, Int.reduceMul, Int.reduceNeg, Int.reduceToNat, Nat.reduceAdd]
  obtain ⟨v4, h⟩ := K (L - 1) (by omega)
  rw [show 1 + (L - 1) = L by omega] at h
  refine ⟨zrw μ 49 (R L), ?_, fun r h => by rw [zrw_n _ _ h], fun j hj => by rw [zrw_s, p3 L j hj]⟩
  rw [B_X8_walkRing]
  have st : zup μ 49 0 (zi (s : Int)) = zrw μ 49 (R 1) := by rw [zup_rw, ← p1']; rfl
  rw [st]
  refine Eq.trans h ?_
  rw [B_X8_walkRing_9]
  simp (disch := omega) only [zbi_some, zbl_some, zbv_some, zbi_none, zbl_none, zbv_none, zbi_ite, zbl_ite, zbv_ite, zbZ, zbO, zc_lt, zc_le, zc_ge, zc_gt, zc_eq, zk0, zk1, zk2, zk3, zk4, zk5, zk6, zk7, zk8, zk9, zk10, zk11, zk12, zk14, zk15, zk16, zk17, zk19, zk20, zk21, zk24, zk25, zk30, zk32, zk36, zk40, zk45, zk50, zk64, zk97, zk99, zk100, zk102, zk122, zk128, zk255, zk800, zk801, zk900, zk999, zk1000, zk1997, zk9999, zk10000, zk100000, zk99999, zk9999999, zk999999999, zk2147483647, zlc0, zlc1, zlc2, zlc3, zlc4, zlc23, zlc99, zlc100, zlc9999999, zlc999999999999, zlc1073741824, zi_neg, zi_add, zi_sub, zi_mul, zl_neg, zl_add, zl_sub, zl_mul, zi_toInt, zi_nat, zi_le, zi_lt, zi_eq, zl_le, zl_lt, zl_eq, zl_toInt, zl_of32, zi_of64, zi_div, zl_div, zmodI, ↓reduceIte, zTle, zFle, zTlt, zFlt, zTeq, zFeq, if_true, if_false, and_self, and_true, true_and, and_false, false_and, or_self, or_true, true_or, or_false, false_or, not_true_eq_false, not_false_eq_true, zcastA, zcastL, znatC, zab, Int.reduceAdd, Int.reduceSub, Int.reduceMul, Int.reduceNeg, Int.reduceToNat, Nat.reduceAdd]

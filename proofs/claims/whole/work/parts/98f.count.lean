/-! TABLET read: a COUNT and its SIGN, the class's -/
section COUNTC
variable {g : Nat → Int} {L K : Nat} {pl nn : Nat → Nat} {ty va : Nat → Int} {sy sn : Nat → Nat} {st : Nat → Nat → Int}
/-- the SIGN behind, or -1 -/
def sgB (ty va : Nat → Int) (k : Nat) : Int := if kd ty va (k + 1) = 3 then va (k + 1) else -1
theorem sgB_r (S : Strm g L K pl nn ty va) {k : Nat} (hk : k < K) : -1 ≤ sgB ty va k ∧ sgB ty va k ≤ 5 ∧ (sgB ty va k ≠ -1 ↔ kd ty va (k + 1) = 3) := by
  have h := (kd_c S (show k + 1 ≤ K from hk)).1
  unfold sgB
  by_cases z : kd ty va (k + 1) = 3
  · rw [if_pos z]
    rw [z] at h
    unfold Kc at h
    omega
  · rw [if_neg z]
    omega
theorem cnt_a (S : Strm g L K pl nn ty va) (hL : L ≤ 800) {k : Nat} (hk : k < K) (h2 : kd ty va k = 2) (d len : Nat) {M : zMu} (hT : TkX K pl ty va M k) (ν : zNu) (n s sa : Int) : zF zT0 (d + 4) 19 [.ref 11, .int (zi n), .int (zi s), .int (zi sa)] (zm len M ν) = zE zc_X1_readCount (zF zT0 (d + 3)) 91 [.ref 11, .int (zi n), .int (zi s), .int (zi sa), .int (zi (va k)), .int (zi (sgB ty va k)), .int (zi 0), zU, zU] [] (zm len M ν) := by
  have hKL := S.2.1.2.2.2
  have x1 : 0 ≤ kd ty va (k + 1) ∧ kd ty va (k + 1) ≤ 200 := by have := (kd_c S (show k + 1 ≤ K from hk)).1; unfold Kc at this; omega
  have A := g_kind (Nat.le_of_lt hk) (by omega) (d + 2) len hT ν
  have V := g_val (Nat.le_of_lt hk) (by omega) (by have := ty_2 S hk h2; omega) (d + 2) len hT ν
  have B := g_sgb hk (by omega) (fun q => ty_3 S (by
    rcases Nat.lt_or_ge (k + 1) K with z | z
    · exact z
    · have := (kd_c S (show k + 1 ≤ K from hk)).2.mpr (by omega)
      omega) q) x1 (d + 2) len hT ν
  rw [h2] at A
  rw [B_X1_readCount]
  unfold sgB
  simp (disch := omega) only [V, B_X1_readCount_7, B, B_X1_readCount_16, A, B_X1_readCount_25, zq63, B_X1_readCount_35, B_X1_readCount_49, B_X1_readCount_62, zbi_some, zbl_some, zbv_some, zbi_none, zbl_none, zbv_none, zbi_ite, zbl_ite, zbv_ite, zbZ, zbO, zc_lt, zc_le, zc_ge, zc_gt, zc_eq, zk0, zk1, zk2, zk3, zk4, zk5, zk6, zk7, zk8, zk9, zk10, zk11, zk12, zk14, zk15, zk16, zk17, zk19, zk20, zk21, zk24, zk25, zk30, zk32, zk36, zk40, zk45, zk50, zk64, zk97, zk99, zk100, zk102, zk122, zk128, zk255, zk800, zk801, zk900, zk999, zk1000, zk1997, zk9999, zk10000, zk100000, zk99999, zk9999999, zk999999999, zk2147483647, zlc0, zlc1, zlc2, zlc3, zlc4, zlc23, zlc99, zlc100, zlc9999999, zlc999999999999, zlc1073741824, zi_neg, zi_add, zi_sub, zi_mul, zl_neg, zl_add, zl_sub, zl_mul, zi_toInt, zi_nat, zi_le, zi_lt, zi_eq, zl_le, zl_lt, zl_eq, zl_toInt, zl_of32, zi_of64, zi_div, zl_div, zmodI, ↓reduceIte, zTle, zFle, zTlt, zFlt, zTeq, zFeq, if_true, if_false, and_self, and_true, true_and, and_false, false_and, or_self, or_true, true_or, or_false, false_or, not_true_eq_false, not_false_eq_true, zcastA, zcastL, znatC, zab, Int.reduceAdd, Int.reduceSub, Int.reduceMul, Int.reduceNeg, Int.reduceToNat, Nat.reduceAdd]
theorem cnt_b (S : Strm g L K pl nn ty va) (hL : L ≤ 800) {k : Nat} (hk : k < K) (h63 : kd ty va k = 63) (d len : Nat) {M : zMu} (hT : TkX K pl ty va M k) (ν : zNu) {n : Nat} (hn : n < 24) {ln : Nat → Ln} (hD : DMd M ln n) (s sa : Int) : ((mkF ln (bkF ln n) (n + 1)).length < 2 → ∃ x : Int32, zF zT0 (d + 4) 19 [.ref 11, .int (zi (n : Int)), .int (zi s), .int (zi sa)] (zm len M ν) = zE zc_X1_readCount (zF zT0 (d + 3)) 91 [.ref 11, .int (zi (n : Int)), .int (zi s), .int (zi sa), .int x, .int (zi (sgB ty va k)), .int (zi 1), zU, zU] [] (zm len M ν)) ∧ ((mkF ln (bkF ln n) (n + 1)).length = 2 → ∃ M', zF zT0 (d + 4) 19 [.ref 11, .int (zi (n : Int)), .int (zi s), .int (zi sa)] (zm len M ν) = some (.int (zi 0), zm len M' ν) ∧ M' 6 7 = zi 3 ∧ M' 6 8 = zi (pl k : Int) ∧ frF M M') := by
  have hKL := S.2.1.2.2.2
  have bl := bkF_le ln n
  have x1 : 0 ≤ kd ty va (k + 1) ∧ kd ty va (k + 1) ≤ 200 := by have := (kd_c S (show k + 1 ≤ K from hk)).1; unfold Kc at this; omega
  have A := g_kind (Nat.le_of_lt hk) (by omega) (d + 2) len hT ν
  obtain ⟨x, V⟩ := g_valx (Nat.le_of_lt hk) (by omega) (d + 2) len hT ν
  have B := g_sgb hk (by omega) (fun q => ty_3 S (by
    rcases Nat.lt_or_ge (k + 1) K with z | z
    · exact z
    · have := (kd_c S (show k + 1 ≤ K from hk)).2.mpr (by omega)
      omega) q) x1 (d + 2) len hT ν
  have e17 := (hD.2.1 n (Nat.le_refl _)).2.2.2
  have e23 := (dm_blk hD).2.2.2.2.1
  rw [h63] at A
  refine ⟨fun hm => ⟨x, ?_⟩, fun hm => ?_⟩
  · rw [B_X1_readCount]
    unfold sgB
    simp (disch := omega) only [V, B_X1_readCount_7, B, B_X1_readCount_16, A, B_X1_readCount_25, zq63, B_X1_readCount_35, B_X1_readCount_62, e17, e23, zbi_some, zbl_some, zbv_some, zbi_none, zbl_none, zbv_none, zbi_ite, zbl_ite, zbv_ite, zbZ, zbO, zc_lt, zc_le, zc_ge, zc_gt, zc_eq, zk0, zk1, zk2, zk3, zk4, zk5, zk6, zk7, zk8, zk9, zk10, zk11, zk12, zk14, zk15, zk16, zk17, zk19, zk20, zk21, zk24, zk25, zk30, zk32, zk36, zk40, zk45, zk50, zk64, zk97, zk99, zk100, zk102, zk122, zk128, zk255, zk800, zk801, zk900, zk999, zk1000, zk1997, zk9999, zk10000, zk100000, zk99999, zk9999999, zk999999999, zk2147483647, zlc0, zlc1, zlc2, zlc3, zlc4, zlc23, zlc99, zlc100, zlc9999999, zlc999999999999, zlc1073741824, zi_neg, zi_add, zi_sub, zi_mul, zl_neg, zl_add, zl_sub, zl_mul, zi_toInt, zi_nat, zi_le, zi_lt, zi_eq, zl_le, zl_lt, zl_eq, zl_toInt, zl_of32, zi_of64, zi_div, zl_div, zmodI, ↓reduceIte, zTle, zFle, zTlt, zFlt, zTeq, zFeq, if_true, if_false, and_self, and_true, true_and, and_false, false_and, or_self, or_true, true_or, or_false, false_or, not_true_eq_false, not_false_eq_true, zcastA, zcastL, znatC, zab, Int.reduceAdd, Int.reduceSub, Int.reduceMul, Int.reduceNeg, Int.reduceToNat, Nat.reduceAdd]
  · obtain ⟨M', T, T1⟩ := g_fail (Nat.le_of_lt hk) (by omega) (d + 2) len hT ν 3
    refine ⟨M', ?_, T1⟩
    rw [hm] at e23
    rw [B_X1_readCount]
    simp (disch := omega) only [V, B_X1_readCount_7, B, B_X1_readCount_16, A, B_X1_readCount_25, zq63, B_X1_readCount_35, B_X1_readCount_62, e17, e23, T, B_X1_readCount_90, zbi_some, zbl_some, zbv_some, zbi_none, zbl_none, zbv_none, zbi_ite, zbl_ite, zbv_ite, zbZ, zbO, zc_lt, zc_le, zc_ge, zc_gt, zc_eq, zk0, zk1, zk2, zk3, zk4, zk5, zk6, zk7, zk8, zk9, zk10, zk11, zk12, zk14, zk15, zk16, zk17, zk19, zk20, zk21, zk24, zk25, zk30, zk32, zk36, zk40, zk45, zk50, zk64, zk97, zk99, zk100, zk102, zk122, zk128, zk255, zk800, zk801, zk900, zk999, zk1000, zk1997, zk9999, zk10000, zk100000, zk99999, zk9999999, zk999999999, zk2147483647, zlc0, zlc1, zlc2, zlc3, zlc4, zlc23, zlc99, zlc100, zlc9999999, zlc999999999999, zlc1073741824, zi_neg, zi_add, zi_sub, zi_mul, zl_neg, zl_add, zl_sub, zl_mul, zi_toInt, zi_nat, zi_le, zi_lt, zi_eq, zl_le, zl_lt, zl_eq, zl_toInt, zl_of32, zi_of64, zi_div, zl_div, zmodI, ↓reduceIte, zTle, zFle, zTlt, zFlt, zTeq, zFeq, if_true, if_false, and_self, and_true, true_and, and_false, false_and, or_self, or_true, true_or, or_false, false_or, not_true_eq_false, not_false_eq_true, zcastA, zcastL, znatC, zab, Int.reduceAdd, Int.reduceSub, Int.reduceMul, Int.reduceNeg, Int.reduceToNat, Nat.reduceAdd]
/-- the SIGN can't be, or isn't one -/
theorem cnt_no (S : Strm g L K pl nn ty va) (hL : L ≤ 800) (hN : NP sy sn st) {k : Nat} (hk : k < K) (d len : Nat) {M : zMu} (hT : TkX K pl ty va M k) (hX : NX sy sn st M) (ν : zNu) (n : Int) {s sa : Nat} (hs : s < 4) (hsa : sa ≤ 6) (x : Int32) (i : Int) (hi : i = 0 ∨ i = 1) (h : sgB ty va k = -1 ∨ (sn s : Int) ≤ sgB ty va k ∨ (sa : Int) ≤ sgB ty va k) : ∃ M', zE zc_X1_readCount (zF zT0 (d + 3)) 91 [.ref 11, .int (zi n), .int (zi (s : Int)), .int (zi (sa : Int)), .int x, .int (zi (sgB ty va k)), .int (zi i), zU, zU] [] (zm len M ν) = some (.int (zi 0), zm len M' ν) ∧ M' 6 7 = zi (if sgB ty va k = -1 then 1 else 2) ∧ M' 6 8 = zi (pl (k + 1) : Int) ∧ frF M M' := by
  have hKL := S.2.1.2.2.2
  have r := sgB_r S hk
  have b := hN.2.1 s hs
  obtain ⟨V, hT1⟩ := g_move hk (by omega) (d + 2) len hT ν
  obtain ⟨M', T, T1, T2, T3⟩ := g_fail (show k + 1 ≤ K from hk) (by omega) (d + 2) len hT1 ν (if sgB ty va k = -1 then 1 else 2)
  have zm1 : (-1 : Int32) = zi (-1) := rfl
  refine ⟨M', ?_, T1, T2, frF_tr (frF_6 (frF_rf M) (by omega)) T3⟩
  have S151 : ∀ v : Value, zE zc_X1_readCount (zF zT0 (d + 3)) 151 [.ref 11, .int (zi n), .int (zi (s : Int)), .int (zi (sa : Int)), .int x, .int (zi (sgB ty va k)), .int (zi i), .int (zi 0), v] [] (zm len M ν) = some (.int (zi 0), zm len M' ν) := fun v => by
    rw [B_X1_readCount_151]
    by_cases z : sgB ty va k = -1
    · rw [if_pos z] at T
      simp (disch := omega) only [V, B_X1_readCount_158, z, zm1, T, B_X1_readCount_172, zbi_some, zbl_some, zbv_some, zbi_none, zbl_none, zbv_none, zbi_ite, zbl_ite, zbv_ite, zbZ, zbO, zc_lt, zc_le, zc_ge, zc_gt, zc_eq, zk0, zk1, zk2, zk3, zk4, zk5, zk6, zk7, zk8, zk9, zk10, zk11, zk12, zk14, zk15, zk16, zk17, zk19, zk20, zk21, zk24, zk25, zk30, zk32, zk36, zk40, zk45, zk50, zk64, zk97, zk99, zk100, zk102, zk122, zk128, zk255, zk800, zk801, zk900, zk999, zk1000, zk1997, zk9999, zk10000, zk100000, zk99999, zk9999999, zk999999999, zk2147483647, zlc0, zlc1, zlc2, zlc3, zlc4, zlc23, zlc99, zlc100, zlc9999999, zlc999999999999, zlc1073741824, zi_neg, zi_add, zi_sub, zi_mul, zl_neg, zl_add, zl_sub, zl_mul, zi_toInt, zi_nat, zi_le, zi_lt, zi_eq, zl_le, zl_lt, zl_eq, zl_toInt, zl_of32, zi_of64, zi_div, zl_div, zmodI, ↓reduceIte, zTle, zFle, zTlt, zFlt, zTeq, zFeq, if_true, if_false, and_self, and_true, true_and, and_false, false_and, or_self, or_true, true_or, or_false, false_or, not_true_eq_false, not_false_eq_true, zcastA, zcastL, znatC, zab, Int.reduceAdd, Int.reduceSub, Int.reduceMul, Int.reduceNeg, Int.reduceToNat, Nat.reduceAdd]
    · rw [if_neg z] at T
      simp (disch := omega) only [V, B_X1_readCount_158, z, zm1, T, B_X1_readCount_186, zbi_some, zbl_some, zbv_some, zbi_none, zbl_none, zbv_none, zbi_ite, zbl_ite, zbv_ite, zbZ, zbO, zc_lt, zc_le, zc_ge, zc_gt, zc_eq, zk0, zk1, zk2, zk3, zk4, zk5, zk6, zk7, zk8, zk9, zk10, zk11, zk12, zk14, zk15, zk16, zk17, zk19, zk20, zk21, zk24, zk25, zk30, zk32, zk36, zk40, zk45, zk50, zk64, zk97, zk99, zk100, zk102, zk122, zk128, zk255, zk800, zk801, zk900, zk999, zk1000, zk1997, zk9999, zk10000, zk100000, zk99999, zk9999999, zk999999999, zk2147483647, zlc0, zlc1, zlc2, zlc3, zlc4, zlc23, zlc99, zlc100, zlc9999999, zlc999999999999, zlc1073741824, zi_neg, zi_add, zi_sub, zi_mul, zl_neg, zl_add, zl_sub, zl_mul, zi_toInt, zi_nat, zi_le, zi_lt, zi_eq, zl_le, zl_lt, zl_eq, zl_toInt, zl_of32, zi_of64, zi_div, zl_div, zmodI, ↓reduceIte, zTle, zFle, zTlt, zFlt, zTeq, zFeq, if_true, if_false, and_self, and_true, true_and, and_false, false_and, or_self, or_true, true_or, or_false, false_or, not_true_eq_false, not_false_eq_true, zcastA, zcastL, znatC, zab, Int.reduceAdd, Int.reduceSub, Int.reduceMul, Int.reduceNeg, Int.reduceToNat, Nat.reduceAdd]
  rw [B_X1_readCount_91]
  by_cases c : sgB ty va k < 0 ∨ (sn s : Int) ≤ sgB ty va k
  · have H := has_n hN (d + 2) len hX ν hs c (by omega)
    rcases hi with hi | hi <;> subst hi <;> simp (disch := omega) only [H, B_X1_readCount_101, B_X1_readCount_114, B_X1_readCount_115, zbi_some, zbl_some, zbv_some, zbi_none, zbl_none, zbv_none, zbi_ite, zbl_ite, zbv_ite, zbZ, zbO, zc_lt, zc_le, zc_ge, zc_gt, zc_eq, zk0, zk1, zk2, zk3, zk4, zk5, zk6, zk7, zk8, zk9, zk10, zk11, zk12, zk14, zk15, zk16, zk17, zk19, zk20, zk21, zk24, zk25, zk30, zk32, zk36, zk40, zk45, zk50, zk64, zk97, zk99, zk100, zk102, zk122, zk128, zk255, zk800, zk801, zk900, zk999, zk1000, zk1997, zk9999, zk10000, zk100000, zk99999, zk9999999, zk999999999, zk2147483647, zlc0, zlc1, zlc2, zlc3, zlc4, zlc23, zlc99, zlc100, zlc9999999, zlc999999999999, zlc1073741824, zi_neg, zi_add, zi_sub, zi_mul, zl_neg, zl_add, zl_sub, zl_mul, zi_toInt, zi_nat, zi_le, zi_lt, zi_eq, zl_le, zl_lt, zl_eq, zl_toInt, zl_of32, zi_of64, zi_div, zl_div, zmodI, ↓reduceIte, zTle, zFle, zTlt, zFlt, zTeq, zFeq, if_true, if_false, and_self, and_true, true_and, and_false, false_and, or_self, or_true, true_or, or_false, false_or, not_true_eq_false, not_false_eq_true, zcastA, zcastL, znatC, zab, Int.reduceAdd, Int.reduceSub, Int.reduceMul, Int.reduceNeg, Int.reduceToNat, Nat.reduceAdd] <;> exact S151 _
  · obtain ⟨j, hj⟩ : ∃ j : Nat, (j : Int) = sgB ty va k := ⟨(sgB ty va k).toNat, by omega⟩
    have H := has_y hN (d + 2) len hX ν hs (show j < sn s by omega)
    rw [hj] at H
    rcases hi with hi | hi <;> subst hi <;> simp (disch := omega) only [H, B_X1_readCount_101, B_X1_readCount_114, B_X1_readCount_115, zbi_some, zbl_some, zbv_some, zbi_none, zbl_none, zbv_none, zbi_ite, zbl_ite, zbv_ite, zbZ, zbO, zc_lt, zc_le, zc_ge, zc_gt, zc_eq, zk0, zk1, zk2, zk3, zk4, zk5, zk6, zk7, zk8, zk9, zk10, zk11, zk12, zk14, zk15, zk16, zk17, zk19, zk20, zk21, zk24, zk25, zk30, zk32, zk36, zk40, zk45, zk50, zk64, zk97, zk99, zk100, zk102, zk122, zk128, zk255, zk800, zk801, zk900, zk999, zk1000, zk1997, zk9999, zk10000, zk100000, zk99999, zk9999999, zk999999999, zk2147483647, zlc0, zlc1, zlc2, zlc3, zlc4, zlc23, zlc99, zlc100, zlc9999999, zlc999999999999, zlc1073741824, zi_neg, zi_add, zi_sub, zi_mul, zl_neg, zl_add, zl_sub, zl_mul, zi_toInt, zi_nat, zi_le, zi_lt, zi_eq, zl_le, zl_lt, zl_eq, zl_toInt, zl_of32, zi_of64, zi_div, zl_div, zmodI, ↓reduceIte, zTle, zFle, zTlt, zFlt, zTeq, zFeq, if_true, if_false, and_self, and_true, true_and, and_false, false_and, or_self, or_true, true_or, or_false, false_or, not_true_eq_false, not_false_eq_true, zcastA, zcastL, znatC, zab, Int.reduceAdd, Int.reduceSub, Int.reduceMul, Int.reduceNeg, Int.reduceToNat, Nat.reduceAdd] <;> exact S151 _
end COUNTC

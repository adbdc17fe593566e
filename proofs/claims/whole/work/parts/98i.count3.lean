/-! TABLET read: a COUNT and its SIGN, the model's, and both -/
def addm (x : Ln) (add : Int) (ms : List (Int × Int)) : Ln := (x.1, x.2.1, x.2.2.1, x.2.2.2.1 + add, x.2.2.2.2 ++ ms)
def fr4 (r r' : Nat → Int32) : Prop := ∀ i, i ≠ 7 → i ≠ 8 → i ≠ 9 → i ≠ 10 → r' i = r i
def fr6 (r r' : Nat → Int32) : Prop := ∀ i, i ≠ 7 → i ≠ 8 → i ≠ 9 → i ≠ 10 → i ≠ 12 → i ≠ 13 → r' i = r i
section COUNTM
variable {g : Nat → Int} {L K : Nat} {pl nn : Nat → Nat} {ty va : Nat → Int} {sy sn : Nat → Nat} {st : Nat → Nat → Int}
theorem cm_a (S : Strm g L K pl nn ty va) (hL : L ≤ 800) (hg : ∀ i, 0 ≤ g i ∧ g i ≤ 255) {k : Nat} (hk : k < K) (h2 : kd ty va k = 2) (d len : Nat) {Y : zMu} (ν : zNu) {r : Nat → Int32} (hY : CcY g Y) (hN : NY sy sn st Y) (e6 : r 6 = zi (L : Int)) (hM : MS pl nn ty va r k) {n gg : Nat} (hn : n < 24) (hgg : gg < 8) (e101 : Y 101 (288 + n) = zi (gg : Int)) (sa : Int) : ∃ r1, zF zT0 (d + 4) 207 [.ref 92, .int (zi ((288 + n : Nat) : Int)), .int (zi sa)] (zm len (zrw Y 92 r) ν) = zE zc_X12_readCount (zF zT0 (d + 3)) 62 [.ref 92, .int (zi ((288 + n : Nat) : Int)), .int (zi sa), .int (zi (sy gg : Int)), .int (zi 0), .int (zi (pl k : Int)), .int (zi (va k)), zU, zU, zU, zU] [] (zm len (zrw Y 92 r1) ν) ∧ MS pl nn ty va r1 (k + 1) ∧ fr4 r r1 := by
  have e95 := hN.1 gg hgg
  obtain ⟨r1, N, R1, R2⟩ := n_next S hL hg d len ν hY e6 hk hM
  obtain ⟨x9, x10, n1, n2, n3⟩ := MS_n S (Nat.le_of_lt hk) hM
  have n4 : x9 = 3 ∧ x10 = va k := by unfold Mt at n1; omega
  obtain ⟨n4, n5⟩ := n4
  subst n4
  subst n5
  have n3 := n3 (by omega)
  have n8 := hM.2.1
  have s1 := n_sg S (Nat.le_of_lt hk) hM (d + 2) len Y ν (c := 63) (by decide)
  rw [h2] at s1
  have ix : (288 + (n : Int)).toNat = 288 + n := by omega
  refine ⟨r1, ?_, R1, R2⟩
  rw [B_X12_readCount]
  simp (disch := omega) only [zrw_n, ix, e101, e95, zq63, s1, zbF, B_X12_readCount_18, zrw_s, n8, n3, B_X12_readCount_58, N, zbi_some, zbl_some, zbv_some, zbi_none, zbl_none, zbv_none, zbi_ite, zbl_ite, zbv_ite, zbZ, zbO, zc_lt, zc_le, zc_ge, zc_gt, zc_eq, zk0, zk1, zk2, zk3, zk4, zk5, zk6, zk7, zk8, zk9, zk10, zk11, zk12, zk14, zk15, zk16, zk17, zk19, zk20, zk21, zk24, zk25, zk30, zk32, zk36, zk40, zk45, zk50, zk64, zk97, zk99, zk100, zk102, zk122, zk128, zk255, zk800, zk801, zk900, zk999, zk1000, zk1997, zk9999, zk10000, zk100000, zk99999, zk9999999, zk999999999, zk2147483647, zlc0, zlc1, zlc2, zlc3, zlc4, zlc23, zlc99, zlc100, zlc9999999, zlc999999999999, zlc1073741824, zi_neg, zi_add, zi_sub, zi_mul, zl_neg, zl_add, zl_sub, zl_mul, zi_toInt, zi_nat, zi_le, zi_lt, zi_eq, zl_le, zl_lt, zl_eq, zl_toInt, zl_of32, zi_of64, zi_div, zl_div, zmodI, ↓reduceIte, zTle, zFle, zTlt, zFlt, zTeq, zFeq, if_true, if_false, and_self, and_true, true_and, and_false, false_and, or_self, or_true, true_or, or_false, false_or, not_true_eq_false, not_false_eq_true, zcastA, zcastL, znatC, zab, Int.reduceAdd, Int.reduceSub, Int.reduceMul, Int.reduceNeg, Int.reduceToNat, Nat.reduceAdd]
theorem cm_b (S : Strm g L K pl nn ty va) (hL : L ≤ 800) (hg : ∀ i, 0 ≤ g i ∧ g i ≤ 255) {k : Nat} (hk : k < K) (h63 : kd ty va k = 63) (d len : Nat) {Y : zMu} (ν : zNu) {r : Nat → Int32} (hY : CcY g Y) (hN : NY sy sn st Y) (e6 : r 6 = zi (L : Int)) (hM : MS pl nn ty va r k) {n gg : Nat} (hn : n < 24) (hgg : gg < 8) (e101 : Y 101 (288 + n) = zi (gg : Int)) {mc : Nat} (hmc : mc ≤ 2) (e110 : Y 110 gg = zi (mc : Int)) (sa : Int) : (mc < 2 → ∃ (r1 : Nat → Int32) (x : Int32), zF zT0 (d + 4) 207 [.ref 92, .int (zi ((288 + n : Nat) : Int)), .int (zi sa)] (zm len (zrw Y 92 r) ν) = zE zc_X12_readCount (zF zT0 (d + 3)) 62 [.ref 92, .int (zi ((288 + n : Nat) : Int)), .int (zi sa), .int (zi (sy gg : Int)), .int (zi 1), .int (zi (pl k : Int)), .int x, zU, zU, zU, zU] [] (zm len (zrw Y 92 r1) ν) ∧ MS pl nn ty va r1 (k + 1) ∧ fr4 r r1) ∧ (mc = 2 → ∃ r', zF zT0 (d + 4) 207 [.ref 92, .int (zi ((288 + n : Nat) : Int)), .int (zi sa)] (zm len (zrw Y 92 r) ν) = some (.int (zi (-1)), zm len (zrw Y 92 r') ν) ∧ r' 12 = zi 3 ∧ r' 13 = zi (pl k : Int) ∧ fr6 r r') := by
  have e95 := hN.1 gg hgg
  have n8 := hM.2.1
  have s1 := n_sg S (Nat.le_of_lt hk) hM (d + 2) len Y ν (c := 63) (by decide)
  rw [h63] at s1
  have ix : (288 + (n : Int)).toNat = 288 + n := by omega
  refine ⟨fun h => ?_, fun h => ?_⟩
  · obtain ⟨r1, N, R1, R2⟩ := n_next S hL hg d len ν hY e6 hk hM
    refine ⟨r1, r 10, ?_, R1, R2⟩
    rw [B_X12_readCount]
    simp (disch := omega) only [zrw_n, ix, e101, e95, zq63, s1, zbT, B_X12_readCount_18, zrw_s, e110, n8, B_X12_readCount_58, N, zbi_some, zbl_some, zbv_some, zbi_none, zbl_none, zbv_none, zbi_ite, zbl_ite, zbv_ite, zbZ, zbO, zc_lt, zc_le, zc_ge, zc_gt, zc_eq, zk0, zk1, zk2, zk3, zk4, zk5, zk6, zk7, zk8, zk9, zk10, zk11, zk12, zk14, zk15, zk16, zk17, zk19, zk20, zk21, zk24, zk25, zk30, zk32, zk36, zk40, zk45, zk50, zk64, zk97, zk99, zk100, zk102, zk122, zk128, zk255, zk800, zk801, zk900, zk999, zk1000, zk1997, zk9999, zk10000, zk100000, zk99999, zk9999999, zk999999999, zk2147483647, zlc0, zlc1, zlc2, zlc3, zlc4, zlc23, zlc99, zlc100, zlc9999999, zlc999999999999, zlc1073741824, zi_neg, zi_add, zi_sub, zi_mul, zl_neg, zl_add, zl_sub, zl_mul, zi_toInt, zi_nat, zi_le, zi_lt, zi_eq, zl_le, zl_lt, zl_eq, zl_toInt, zl_of32, zi_of64, zi_div, zl_div, zmodI, ↓reduceIte, zTle, zFle, zTlt, zFlt, zTeq, zFeq, if_true, if_false, and_self, and_true, true_and, and_false, false_and, or_self, or_true, true_or, or_false, false_or, not_true_eq_false, not_false_eq_true, zcastA, zcastL, znatC, zab, Int.reduceAdd, Int.reduceSub, Int.reduceMul, Int.reduceNeg, Int.reduceToNat, Nat.reduceAdd]
  · obtain ⟨r', N, P1, P2, P3⟩ := n_fails hM (d + 1) len Y ν 3
    refine ⟨r', ?_, P1, P2, fun i _ _ _ _ i12 i13 => P3 i i12 i13⟩
    subst h
    rw [B_X12_readCount]
    simp (disch := omega) only [zrw_n, ix, e101, e95, zq63, s1, zbT, B_X12_readCount_18, zrw_s, e110, N, B_X12_readCount_57, zbi_some, zbl_some, zbv_some, zbi_none, zbl_none, zbv_none, zbi_ite, zbl_ite, zbv_ite, zbZ, zbO, zc_lt, zc_le, zc_ge, zc_gt, zc_eq, zk0, zk1, zk2, zk3, zk4, zk5, zk6, zk7, zk8, zk9, zk10, zk11, zk12, zk14, zk15, zk16, zk17, zk19, zk20, zk21, zk24, zk25, zk30, zk32, zk36, zk40, zk45, zk50, zk64, zk97, zk99, zk100, zk102, zk122, zk128, zk255, zk800, zk801, zk900, zk999, zk1000, zk1997, zk9999, zk10000, zk100000, zk99999, zk9999999, zk999999999, zk2147483647, zlc0, zlc1, zlc2, zlc3, zlc4, zlc23, zlc99, zlc100, zlc9999999, zlc999999999999, zlc1073741824, zi_neg, zi_add, zi_sub, zi_mul, zl_neg, zl_add, zl_sub, zl_mul, zi_toInt, zi_nat, zi_le, zi_lt, zi_eq, zl_le, zl_lt, zl_eq, zl_toInt, zl_of32, zi_of64, zi_div, zl_div, zmodI, ↓reduceIte, zTle, zFle, zTlt, zFlt, zTeq, zFeq, if_true, if_false, and_self, and_true, true_and, and_false, false_and, or_self, or_true, true_or, or_false, false_or, not_true_eq_false, not_false_eq_true, zcastA, zcastL, znatC, zab, Int.reduceAdd, Int.reduceSub, Int.reduceMul, Int.reduceNeg, Int.reduceToNat, Nat.reduceAdd]
theorem cm_no (S : Strm g L K pl nn ty va) (hNP : NP sy sn st) {k : Nat} (hk : k < K) (d len : Nat) {Y : zMu} (ν : zNu) {r : Nat → Int32} (hN : NY sy sn st Y) (hM : MS pl nn ty va r (k + 1)) (l x5 x6 : Int32) (i : Int) {s sa : Nat} (hs : s < 4) (hsa : sa ≤ 6) (h : sgB ty va k = -1 ∨ (sn s : Int) ≤ sgB ty va k ∨ (sa : Int) ≤ sgB ty va k) : ∃ r', zE zc_X12_readCount (zF zT0 (d + 3)) 62 [.ref 92, .int l, .int (zi (sa : Int)), .int (zi (s : Int)), .int (zi i), .int x5, .int x6, zU, zU, zU, zU] [] (zm len (zrw Y 92 r) ν) = some (.int (zi (-1)), zm len (zrw Y 92 r') ν) ∧ r' 12 = zi (if sgB ty va k = -1 then 1 else 2) ∧ r' 13 = zi (pl (k + 1) : Int) ∧ fr6 r r' := by
  have sr := sgB_r S hk
  have b := hNP.2.1 s hs
  have e93 := hN.2.1 s hs
  obtain ⟨x9, x10, n1, n2, n3⟩ := MS_n S (show k + 1 ≤ K from hk) hM
  obtain ⟨r', N, P1, P2, P3⟩ := n_fails hM (d + 1) len Y ν (if sgB ty va k = -1 then 1 else 2)
  refine ⟨r', ?_, P1, P2, fun i _ _ _ _ i12 i13 => P3 i i12 i13⟩
  rw [B_X12_readCount_62]
  by_cases z : sgB ty va k = -1
  · rw [if_pos z] at N
    by_cases c : x9 = 2
    · have n3 := n3 (by omega)
      have : (0 ≤ x10 ∧ x10 ≤ 20) ∧ ¬ (5 ≤ x10 ∧ x10 ≤ 10) := by unfold Mt at n1; omega
      obtain ⟨c1, c2⟩ := this
      simp (disch := omega) only [zrw_s, n2, c, n3, F_isIn, c2, zbF, B_X12_readCount_81, N, B_X12_readCount_89, zbi_some, zbl_some, zbv_some, zbi_none, zbl_none, zbv_none, zbi_ite, zbl_ite, zbv_ite, zbZ, zbO, zc_lt, zc_le, zc_ge, zc_gt, zc_eq, zk0, zk1, zk2, zk3, zk4, zk5, zk6, zk7, zk8, zk9, zk10, zk11, zk12, zk14, zk15, zk16, zk17, zk19, zk20, zk21, zk24, zk25, zk30, zk32, zk36, zk40, zk45, zk50, zk64, zk97, zk99, zk100, zk102, zk122, zk128, zk255, zk800, zk801, zk900, zk999, zk1000, zk1997, zk9999, zk10000, zk100000, zk99999, zk9999999, zk999999999, zk2147483647, zlc0, zlc1, zlc2, zlc3, zlc4, zlc23, zlc99, zlc100, zlc9999999, zlc999999999999, zlc1073741824, zi_neg, zi_add, zi_sub, zi_mul, zl_neg, zl_add, zl_sub, zl_mul, zi_toInt, zi_nat, zi_le, zi_lt, zi_eq, zl_le, zl_lt, zl_eq, zl_toInt, zl_of32, zi_of64, zi_div, zl_div, zmodI, ↓reduceIte, zTle, zFle, zTlt, zFlt, zTeq, zFeq, if_true, if_false, and_self, and_true, true_and, and_false, false_and, or_self, or_true, true_or, or_false, false_or, not_true_eq_false, not_false_eq_true, zcastA, zcastL, znatC, zab, Int.reduceAdd, Int.reduceSub, Int.reduceMul, Int.reduceNeg, Int.reduceToNat, Nat.reduceAdd]
    · have : 0 ≤ x9 ∧ x9 ≤ 4 := by unfold Mt at n1; omega
      simp (disch := omega) only [zrw_s, n2, c, N, B_X12_readCount_89, zbi_some, zbl_some, zbv_some, zbi_none, zbl_none, zbv_none, zbi_ite, zbl_ite, zbv_ite, zbZ, zbO, zc_lt, zc_le, zc_ge, zc_gt, zc_eq, zk0, zk1, zk2, zk3, zk4, zk5, zk6, zk7, zk8, zk9, zk10, zk11, zk12, zk14, zk15, zk16, zk17, zk19, zk20, zk21, zk24, zk25, zk30, zk32, zk36, zk40, zk45, zk50, zk64, zk97, zk99, zk100, zk102, zk122, zk128, zk255, zk800, zk801, zk900, zk999, zk1000, zk1997, zk9999, zk10000, zk100000, zk99999, zk9999999, zk999999999, zk2147483647, zlc0, zlc1, zlc2, zlc3, zlc4, zlc23, zlc99, zlc100, zlc9999999, zlc999999999999, zlc1073741824, zi_neg, zi_add, zi_sub, zi_mul, zl_neg, zl_add, zl_sub, zl_mul, zi_toInt, zi_nat, zi_le, zi_lt, zi_eq, zl_le, zl_lt, zl_eq, zl_toInt, zl_of32, zi_of64, zi_div, zl_div, zmodI, ↓reduceIte, zTle, zFle, zTlt, zFlt, zTeq, zFeq, if_true, if_false, and_self, and_true, true_and, and_false, false_and, or_self, or_true, true_or, or_false, false_or, not_true_eq_false, not_false_eq_true, zcastA, zcastL, znatC, zab, Int.reduceAdd, Int.reduceSub, Int.reduceMul, Int.reduceNeg, Int.reduceToNat, Nat.reduceAdd]
  · rw [if_neg z] at N
    have h3 : kd ty va (k + 1) = 3 := sr.2.2.mp z
    have sv : sgB ty va k = va (k + 1) := if_pos h3
    have n4 : x9 = 2 ∧ x10 = va (k + 1) + 5 ∧ 0 ≤ va (k + 1) ∧ va (k + 1) ≤ 5 := by unfold Mt at n1; omega
    obtain ⟨n4, n5, v1, v2⟩ := n4
    subst n4
    subst n5
    have n3 := n3 (by omega)
    have cc : va (k + 1) + 5 - 5 = va (k + 1) := by omega
    by_cases y : (sn s : Int) ≤ va (k + 1)
    · simp (disch := omega) only [zrw_s, zrw_n, n2, n3, F_isIn, B_X12_readCount_81, e93, cc, N, B_X12_readCount_120, zbi_some, zbl_some, zbv_some, zbi_none, zbl_none, zbv_none, zbi_ite, zbl_ite, zbv_ite, zbZ, zbO, zc_lt, zc_le, zc_ge, zc_gt, zc_eq, zk0, zk1, zk2, zk3, zk4, zk5, zk6, zk7, zk8, zk9, zk10, zk11, zk12, zk14, zk15, zk16, zk17, zk19, zk20, zk21, zk24, zk25, zk30, zk32, zk36, zk40, zk45, zk50, zk64, zk97, zk99, zk100, zk102, zk122, zk128, zk255, zk800, zk801, zk900, zk999, zk1000, zk1997, zk9999, zk10000, zk100000, zk99999, zk9999999, zk999999999, zk2147483647, zlc0, zlc1, zlc2, zlc3, zlc4, zlc23, zlc99, zlc100, zlc9999999, zlc999999999999, zlc1073741824, zi_neg, zi_add, zi_sub, zi_mul, zl_neg, zl_add, zl_sub, zl_mul, zi_toInt, zi_nat, zi_le, zi_lt, zi_eq, zl_le, zl_lt, zl_eq, zl_toInt, zl_of32, zi_of64, zi_div, zl_div, zmodI, ↓reduceIte, zTle, zFle, zTlt, zFlt, zTeq, zFeq, if_true, if_false, and_self, and_true, true_and, and_false, false_and, or_self, or_true, true_or, or_false, false_or, not_true_eq_false, not_false_eq_true, zcastA, zcastL, znatC, zab, Int.reduceAdd, Int.reduceSub, Int.reduceMul, Int.reduceNeg, Int.reduceToNat, Nat.reduceAdd]
    · simp (disch := omega) only [zrw_s, zrw_n, n2, n3, F_isIn, B_X12_readCount_81, e93, cc, N, B_X12_readCount_120, zbi_some, zbl_some, zbv_some, zbi_none, zbl_none, zbv_none, zbi_ite, zbl_ite, zbv_ite, zbZ, zbO, zc_lt, zc_le, zc_ge, zc_gt, zc_eq, zk0, zk1, zk2, zk3, zk4, zk5, zk6, zk7, zk8, zk9, zk10, zk11, zk12, zk14, zk15, zk16, zk17, zk19, zk20, zk21, zk24, zk25, zk30, zk32, zk36, zk40, zk45, zk50, zk64, zk97, zk99, zk100, zk102, zk122, zk128, zk255, zk800, zk801, zk900, zk999, zk1000, zk1997, zk9999, zk10000, zk100000, zk99999, zk9999999, zk999999999, zk2147483647, zlc0, zlc1, zlc2, zlc3, zlc4, zlc23, zlc99, zlc100, zlc9999999, zlc999999999999, zlc1073741824, zi_neg, zi_add, zi_sub, zi_mul, zl_neg, zl_add, zl_sub, zl_mul, zi_toInt, zi_nat, zi_le, zi_lt, zi_eq, zl_le, zl_lt, zl_eq, zl_toInt, zl_of32, zi_of64, zi_div, zl_div, zmodI, ↓reduceIte, zTle, zFle, zTlt, zFlt, zTeq, zFeq, if_true, if_false, and_self, and_true, true_and, and_false, false_and, or_self, or_true, true_or, or_false, false_or, not_true_eq_false, not_false_eq_true, zcastA, zcastL, znatC, zab, Int.reduceAdd, Int.reduceSub, Int.reduceMul, Int.reduceNeg, Int.reduceToNat, Nat.reduceAdd]
/-- to the worth of a SIGN that can be -/
theorem cm_y (S : Strm g L K pl nn ty va) (hNP : NP sy sn st) {k : Nat} (hk : k < K) (d len : Nat) {Y : zMu} (ν : zNu) {r : Nat → Int32} (hN : NY sy sn st Y) (hM : MS pl nn ty va r (k + 1)) (l x5 x6 : Int32) (i : Int) {s sa j : Nat} (hs : s < 4) (hsa : sa ≤ 6) (hj : sgB ty va k = (j : Int)) (h1 : j < sn s) (h2 : j < sa) : zE zc_X12_readCount (zF zT0 (d + 3)) 62 [.ref 92, .int l, .int (zi (sa : Int)), .int (zi (s : Int)), .int (zi i), .int x5, .int x6, zU, zU, zU, zU] [] (zm len (zrw Y 92 r) ν) = zE zc_X12_readCount (zF zT0 (d + 3)) 161 [.ref 92, .int l, .int (zi (sa : Int)), .int (zi (s : Int)), .int (zi i), .int x5, .int x6, .int (zi (j : Int)), .int (zi (moF sn st s j)), zU, zU] [.long (zl (zP (st s) j))] (zm len (zrw Y 92 r) ν) := by
  have sr := sgB_r S hk
  have b := hNP.2.1 s hs
  have e93 := hN.2.1 s hs
  obtain ⟨x9, x10, n1, n2, n3⟩ := MS_n S (show k + 1 ≤ K from hk) hM
  have h3 : kd ty va (k + 1) = 3 := sr.2.2.mp (by omega)
  have sv : sgB ty va k = va (k + 1) := if_pos h3
  have n4 : x9 = 2 ∧ x10 = (j : Int) + 5 := by unfold Mt at n1; omega
  obtain ⟨n4, n5⟩ := n4
  subst n4
  subst n5
  have n3 := n3 (by omega)
  have cc : (j : Int) + 5 - 5 = (j : Int) := by omega
  have z5 : (5 : Int32) = zi 5 := rfl
  have W := F_worm hNP (d + 2) len (Y := zrw Y 92 r) hN ν hs h1
  rw [B_X12_readCount_62]
  unfold moF
  by_cases z : j + 1 = sn s
  · rw [if_pos z]
    simp (disch := omega) only [zrw_s, zrw_n, n2, n3, F_isIn, B_X12_readCount_81, e93, cc, B_X12_readCount_152, W, zbi_some, zbl_some, zbv_some, zbi_none, zbl_none, zbv_none, zbi_ite, zbl_ite, zbv_ite, zbZ, zbO, zc_lt, zc_le, zc_ge, zc_gt, zc_eq, zk0, zk1, zk2, zk3, zk4, zk5, zk6, zk7, zk8, zk9, zk10, zk11, zk12, zk14, zk15, zk16, zk17, zk19, zk20, zk21, zk24, zk25, zk30, zk32, zk36, zk40, zk45, zk50, zk64, zk97, zk99, zk100, zk102, zk122, zk128, zk255, zk800, zk801, zk900, zk999, zk1000, zk1997, zk9999, zk10000, zk100000, zk99999, zk9999999, zk999999999, zk2147483647, zlc0, zlc1, zlc2, zlc3, zlc4, zlc23, zlc99, zlc100, zlc9999999, zlc999999999999, zlc1073741824, zi_neg, zi_add, zi_sub, zi_mul, zl_neg, zl_add, zl_sub, zl_mul, zi_toInt, zi_nat, zi_le, zi_lt, zi_eq, zl_le, zl_lt, zl_eq, zl_toInt, zl_of32, zi_of64, zi_div, zl_div, zmodI, ↓reduceIte, zTle, zFle, zTlt, zFlt, zTeq, zFeq, if_true, if_false, and_self, and_true, true_and, and_false, false_and, or_self, or_true, true_or, or_false, false_or, not_true_eq_false, not_false_eq_true, zcastA, zcastL, znatC, zab, Int.reduceAdd, Int.reduceSub, Int.reduceMul, Int.reduceNeg, Int.reduceToNat, Nat.reduceAdd]
  · rw [if_neg z]
    have e94 := hN.2.2 s j hs (by omega)
    have ix : (5 * (s : Int) + (j : Int)).toNat = 5 * s + j := by omega
    simp (disch := omega) only [zrw_s, zrw_n, n2, n3, F_isIn, B_X12_readCount_81, e93, cc, z5, ix, e94, B_X12_readCount_152, W, zbi_some, zbl_some, zbv_some, zbi_none, zbl_none, zbv_none, zbi_ite, zbl_ite, zbv_ite, zbZ, zbO, zc_lt, zc_le, zc_ge, zc_gt, zc_eq, zk0, zk1, zk2, zk3, zk4, zk5, zk6, zk7, zk8, zk9, zk10, zk11, zk12, zk14, zk15, zk16, zk17, zk19, zk20, zk21, zk24, zk25, zk30, zk32, zk36, zk40, zk45, zk50, zk64, zk97, zk99, zk100, zk102, zk122, zk128, zk255, zk800, zk801, zk900, zk999, zk1000, zk1997, zk9999, zk10000, zk100000, zk99999, zk9999999, zk999999999, zk2147483647, zlc0, zlc1, zlc2, zlc3, zlc4, zlc23, zlc99, zlc100, zlc9999999, zlc999999999999, zlc1073741824, zi_neg, zi_add, zi_sub, zi_mul, zl_neg, zl_add, zl_sub, zl_mul, zi_toInt, zi_nat, zi_le, zi_lt, zi_eq, zl_le, zl_lt, zl_eq, zl_toInt, zl_of32, zi_of64, zi_div, zl_div, zmodI, ↓reduceIte, zTle, zFle, zTlt, zFlt, zTeq, zFeq, if_true, if_false, and_self, and_true, true_and, and_false, false_and, or_self, or_true, true_or, or_false, false_or, not_true_eq_false, not_false_eq_true, zcastA, zcastL, znatC, zab, Int.reduceAdd, Int.reduceSub, Int.reduceMul, Int.reduceNeg, Int.reduceToNat, Nat.reduceAdd]
end COUNTM

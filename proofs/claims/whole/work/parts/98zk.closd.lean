/-! TABLET: a closed BLOCK's fills, the model's loops -/
theorem TU_v {Q : Nat → Nat} {N : Nat} {ms : List (Nat × Int × Int)} {lq : Int} {Y : zMu} {ν ν' : zNu} (h : TU Q N ms lq Y ν) (e : ν' 114 = ν 114) : TU Q N ms lq Y ν' := ⟨h.1, h.2.1, fun x q hq => by rw [e]; exact h.2.2 x q hq⟩
theorem frXm_rf (o : Nat) (Q : Nat → Nat) (N : Nat) (ν : zNu) : frXm o Q N ν ν := ⟨fun _ _ _ _ => rfl, fun _ _ => ⟨rfl, rfl⟩⟩
theorem frW_x {o : Nat} {Q : Nat → Nat} {N : Nat} (Y : zMu) {ν ν' : zNu} (f : frXm o Q N ν ν') : frW o Q N Y Y ν ν' := ⟨fun _ _ _ _ _ => rfl, fun _ _ _ => rfl, fun _ _ => rfl, fun r a b _ c => f.1 r a b c, f.2⟩
section CL
variable {ln : Nat → Ln} {Q : Nat → Nat} {N o m b : Nat}
theorem cf_1 (call : zC) (len : Nat) (ho : o ≤ 264) (hN : N ≤ 24) (hQ : ∀ p q, p < q → q < N → Q p < Q q) (x1 : Int64) {Y : zMu} (e31 : Y 92 31 = zi (N : Int)) (h112 : ∀ p, p < N → Y 112 p = zi ((o + Q p : Nat) : Int) ∧ Q p < 24) : ∀ c t : Nat, t + c = N → ∀ (ν : zNu) (v2 v4 v5 : Value), (∀ p, p < t → ν 107 (o + Q p) = zl 1000000000000 ∧ ν 108 (o + Q p) = zl (-1)) → ∃ (ν' : zNu) (w2 : Value), zE zc_X12_closedFills call 4 [.ref 92, .long x1, v2, .int (zi (t : Int)), v4, v5] [] (zm len Y ν) = zE zc_X12_closedFills call 48 [.ref 92, .long x1, w2, .int (zi 0), v4, v5] [] (zm len Y ν') ∧ (∀ p, p < N → ν' 107 (o + Q p) = zl 1000000000000 ∧ ν' 108 (o + Q p) = zl (-1)) ∧ frXm o Q N ν ν' := by
  intro c
  induction c with
  | zero =>
    intro t ht ν v2 v4 v5 hT
    have : t = N := by omega
    subst this
    refine ⟨ν, zclr v2, ?_, hT, frXm_rf o Q t ν⟩
    rw [B_X12_closedFills_4]
    simp (disch := omega) only [e31, zbi_some, zbl_some, zbv_some, zbi_none, zbl_none, zbv_none, zbi_ite, zbl_ite, zbv_ite, zbZ, zbO, zc_lt, zc_le, zc_ge, zc_gt, zc_eq, zk0, zk1, zk2, zk3, zk4, zk5, zk6, zk7, zk8, zk9, zk10, zk11, zk12, zk14, zk15, zk16, zk17, zk19, zk20, zk21, zk24, zk25, zk30, zk32, zk36, zk40, zk45, zk50, zk64, zk97, zk99, zk100, zk102, zk122, zk128, zk255, zk800, zk801, zk900, zk999, zk1000, zk1997, zk9999, zk10000, zk100000, zk99999, zk9999999, zk999999999, zk2147483647, zlc0, zlc1, zlc2, zlc3, zlc4, zlc23, zlc99, zlc100, zlc9999999, zlc999999999999, zlc1073741824, zi_neg, zi_add, zi_sub, zi_mul, zl_neg, zl_add, zl_sub, zl_mul, zi_toInt, zi_nat, zi_le, zi_lt, zi_eq, zl_le, zl_lt, zl_eq, zl_toInt, zl_of32, zi_of64, zi_div, zl_div, zmodI, ↓reduceIte, zTle, zFle, zTlt, zFlt, zTeq, zFeq, if_true, if_false, and_self, and_true, true_and, and_false, false_and, or_self, or_true, true_or, or_false, false_or, not_true_eq_false, not_false_eq_true, zcastA, zcastL, znatC, zab, Int.reduceAdd, Int.reduceSub, Int.reduceMul, Int.reduceNeg, Int.reduceToNat, Nat.reduceAdd]
  | succ c ih =>
    intro t ht ν v2 v4 v5 hT
    obtain ⟨e112, q24⟩ := h112 t (by omega)
    have e112 : Y 112 t = zi ((o : Int) + (Q t : Int)) := e112
    have ix : ((o : Int) + (Q t : Int)).toNat = o + Q t := by omega
    obtain ⟨ν1, hν1⟩ : ∃ ν1, ν1 = zupl (zupl ν 107 (o + Q t) (zl 1000000000000)) 108 (o + Q t) (zl (-1)) := ⟨_, rfl⟩
    have f1 : frXm o Q N ν ν1 := by
      rw [hν1]
      refine ⟨fun r a b _ => by rw [zupl_nx b, zupl_nx a], fun i hi => ?_⟩
      have ne := hi t (by omega)
      rw [zupl_j ne, zupl_j ne, zupl_j ne, zupl_j ne]
      exact ⟨rfl, rfl⟩
    have T1 : ∀ p, p < t + 1 → ν1 107 (o + Q p) = zl 1000000000000 ∧ ν1 108 (o + Q p) = zl (-1) := fun p hp => by
      rw [hν1]
      by_cases z : p = t
      · subst z
        refine ⟨?_, ?_⟩
        · rw [zupl_nx (by decide), zupl_ss]
        · rw [zupl_ss]
      · have := hQ p t (by omega) (by omega)
        have ne : o + Q p ≠ o + Q t := by omega
        rw [zupl_j ne, zupl_j ne, zupl_j ne, zupl_j ne]
        exact hT p (by omega)
    obtain ⟨ν2, w2, B, B1, B2⟩ := ih (t + 1) (by omega) ν1 (zclr v2) v4 v5 T1
    refine ⟨ν2, w2, ?_, B1, frXm_tr f1 B2⟩
    have z12 : (1000000000000 : Int64) = zl 1000000000000 := rfl
    have zm1 : (-1 : Int64) = zl (-1) := rfl
    rw [← B, hν1, B_X12_closedFills_4]
    simp (disch := omega) only [e31, e112, ix, z12, zm1, zbi_some, zbl_some, zbv_some, zbi_none, zbl_none, zbv_none, zbi_ite, zbl_ite, zbv_ite, zbZ, zbO, zc_lt, zc_le, zc_ge, zc_gt, zc_eq, zk0, zk1, zk2, zk3, zk4, zk5, zk6, zk7, zk8, zk9, zk10, zk11, zk12, zk14, zk15, zk16, zk17, zk19, zk20, zk21, zk24, zk25, zk30, zk32, zk36, zk40, zk45, zk50, zk64, zk97, zk99, zk100, zk102, zk122, zk128, zk255, zk800, zk801, zk900, zk999, zk1000, zk1997, zk9999, zk10000, zk100000, zk99999, zk9999999, zk999999999, zk2147483647, zlc0, zlc1, zlc2, zlc3, zlc4, zlc23, zlc99, zlc100, zlc9999999, zlc999999999999, zlc1073741824, zi_neg, zi_add, zi_sub, zi_mul, zl_neg, zl_add, zl_sub, zl_mul, zi_toInt, zi_nat, zi_le, zi_lt, zi_eq, zl_le, zl_lt, zl_eq, zl_toInt, zl_of32, zi_of64, zi_div, zl_div, zmodI, ↓reduceIte, zTle, zFle, zTlt, zFlt, zTeq, zFeq, if_true, if_false, and_self, and_true, true_and, and_false, false_and, or_self, or_true, true_or, or_false, false_or, not_true_eq_false, not_false_eq_true, zcastA, zcastL, znatC, zab, Int.reduceAdd, Int.reduceSub, Int.reduceMul, Int.reduceNeg, Int.reduceToNat, Nat.reduceAdd]
theorem cf_s (d len : Nat) (ho : o ≤ 264) (hN : N ≤ 24) (hm : m ≤ 24) (hV : LV ln m) (hB : BQ ln m b N Q) (hc : clF ln b m = 1) {Y : zMu} {ν : zNu} (hW : WP o Y ν ln Q N) (hT : TU Q N (mkF ln b m) (lqP ln Q N) Y ν) {x y : Nat} (hx : (x : Int) ≤ mW (mkF ln b m) 0) (hy : (y : Int) ≤ mW (mkF ln b m) 1) {S : Stt} (hP : PI ln m b S) (hC : ∀ p, p < N → ν 107 (o + Q p) = zl (aM S (Q p)) ∧ ν 108 (o + Q p) = zl (bM S (Q p))) (v2 v5 : Value) : ∃ (ν' : zNu) (w2 w5 : Value), zE zc_X12_closedFills (zF zT0 (d + 3)) 60 [.ref 92, .long (zl S.1), v2, .int (zi (x : Int)), .int (zi (y : Int)), v5] [] (zm len Y ν) = zE zc_X12_closedFills (zF zT0 (d + 3)) 60 [.ref 92, .long (zl (stp ln m b (x : Int) (y : Int) S).1), w2, .int (zi (x : Int)), .int (zi ((y + 1 : Nat) : Int)), w5] [] (zm len Y ν') ∧ PI ln m b (stp ln m b (x : Int) (y : Int) S) ∧ (∀ p, p < N → ν' 107 (o + Q p) = zl (aM (stp ln m b (x : Int) (y : Int) S) (Q p)) ∧ ν' 108 (o + Q p) = zl (bM (stp ln m b (x : Int) (y : Int) S) (Q p))) ∧ frXm o Q N ν ν' := by
  have w0 := mW_b hV b 0
  have w1 := mW_b hV b 1
  obtain ⟨ν1, v, A, A0, A1, A2, A3, A4⟩ := F_fit d len ho hN hm hV hB hc hW hT (show 0 ≤ (x : Int) ∧ (x : Int) ≤ 99 by omega) (show 0 ≤ (y : Int) ∧ (y : Int) ≤ 99 by omega) (zi 0) hP hC
  have hT1 := TU_v hT (A4.1 114 (by decide) (by decide) (by decide))
  have m1 : zF zT0 (d + 3) 213 [.ref 92, .int (zi 1)] (zm len Y ν) = some (.int (zi (mW (mkF ln b m) 1)), zm len Y ν) := F_mst (d + 2) len (hV.2 b) hT (k := 1) (by decide)
  have w2 := (mL_none (ms := mkF ln b m) (x := 2) (hV.2 b)).2.2
  have m2 : zF zT0 (d + 3) 213 [.ref 92, .int (zi 2)] (zm len Y ν) = some (.int (zi 0), zm len Y ν) := by
    rw [← w2]
    exact F_mst (d + 2) len (hV.2 b) hT (k := 2) (by decide)
  have m3 : zF zT0 (d + 3) 213 [.ref 92, .int (zi 2)] (zm len Y ν1) = some (.int (zi 0), zm len Y ν1) := by
    rw [← w2]
    exact F_mst (d + 2) len (hV.2 b) hT1 (k := 2) (by decide)
  obtain ⟨c, hc0⟩ : ∃ c, c = S.1 := ⟨_, rfl⟩
  rw [A1, ← hc0]
  rcases A0 with v0 | v1
  · subst v0
    refine ⟨ν1, v2, .int (zi 1), ?_, A2, A3, A4⟩
    rw [B_X12_closedFills_60]
    simp (disch := omega) only [m1, B_X12_closedFills_67, B_X12_closedFills_73, m2, B_X12_closedFills_80, A, B_X12_closedFills_92, B_X12_closedFills_99, m3, Int.add_zero, zbi_some, zbl_some, zbv_some, zbi_none, zbl_none, zbv_none, zbi_ite, zbl_ite, zbv_ite, zbZ, zbO, zc_lt, zc_le, zc_ge, zc_gt, zc_eq, zk0, zk1, zk2, zk3, zk4, zk5, zk6, zk7, zk8, zk9, zk10, zk11, zk12, zk14, zk15, zk16, zk17, zk19, zk20, zk21, zk24, zk25, zk30, zk32, zk36, zk40, zk45, zk50, zk64, zk97, zk99, zk100, zk102, zk122, zk128, zk255, zk800, zk801, zk900, zk999, zk1000, zk1997, zk9999, zk10000, zk100000, zk99999, zk9999999, zk999999999, zk2147483647, zlc0, zlc1, zlc2, zlc3, zlc4, zlc23, zlc99, zlc100, zlc9999999, zlc999999999999, zlc1073741824, zi_neg, zi_add, zi_sub, zi_mul, zl_neg, zl_add, zl_sub, zl_mul, zi_toInt, zi_nat, zi_le, zi_lt, zi_eq, zl_le, zl_lt, zl_eq, zl_toInt, zl_of32, zi_of64, zi_div, zl_div, zmodI, ↓reduceIte, zTle, zFle, zTlt, zFlt, zTeq, zFeq, if_true, if_false, and_self, and_true, true_and, and_false, false_and, or_self, or_true, true_or, or_false, false_or, not_true_eq_false, not_false_eq_true, zcastA, zcastL, znatC, zab, Int.reduceAdd, Int.reduceSub, Int.reduceMul, Int.reduceNeg, Int.reduceToNat, Nat.reduceAdd]
  · subst v1
    refine ⟨ν1, zU, .int (zi 1), ?_, A2, A3, A4⟩
    rw [B_X12_closedFills_60]
    simp (disch := omega) only [m1, B_X12_closedFills_67, B_X12_closedFills_73, m2, B_X12_closedFills_80, A, B_X12_closedFills_92, B_X12_closedFills_99, m3, zbi_some, zbl_some, zbv_some, zbi_none, zbl_none, zbv_none, zbi_ite, zbl_ite, zbv_ite, zbZ, zbO, zc_lt, zc_le, zc_ge, zc_gt, zc_eq, zk0, zk1, zk2, zk3, zk4, zk5, zk6, zk7, zk8, zk9, zk10, zk11, zk12, zk14, zk15, zk16, zk17, zk19, zk20, zk21, zk24, zk25, zk30, zk32, zk36, zk40, zk45, zk50, zk64, zk97, zk99, zk100, zk102, zk122, zk128, zk255, zk800, zk801, zk900, zk999, zk1000, zk1997, zk9999, zk10000, zk100000, zk99999, zk9999999, zk999999999, zk2147483647, zlc0, zlc1, zlc2, zlc3, zlc4, zlc23, zlc99, zlc100, zlc9999999, zlc999999999999, zlc1073741824, zi_neg, zi_add, zi_sub, zi_mul, zl_neg, zl_add, zl_sub, zl_mul, zi_toInt, zi_nat, zi_le, zi_lt, zi_eq, zl_le, zl_lt, zl_eq, zl_toInt, zl_of32, zi_of64, zi_div, zl_div, zmodI, ↓reduceIte, zTle, zFle, zTlt, zFlt, zTeq, zFeq, if_true, if_false, and_self, and_true, true_and, and_false, false_and, or_self, or_true, true_or, or_false, false_or, not_true_eq_false, not_false_eq_true, zcastA, zcastL, znatC, zab, Int.reduceAdd, Int.reduceSub, Int.reduceMul, Int.reduceNeg, Int.reduceToNat, Nat.reduceAdd]
theorem cf_y (d len : Nat) (ho : o ≤ 264) (hN : N ≤ 24) (hm : m ≤ 24) (hV : LV ln m) (hB : BQ ln m b N Q) (hc : clF ln b m = 1) {Y : zMu} {x : Nat} (hx : (x : Int) ≤ mW (mkF ln b m) 0) (S : Stt) : ∀ k y : Nat, y + k = (mW (mkF ln b m) 1).toNat + 1 → ∀ (ν : zNu) (v2 v5 : Value), WP o Y ν ln Q N → TU Q N (mkF ln b m) (lqP ln Q N) Y ν → PI ln m b (fY ln m b (x : Int) y S) → (∀ p, p < N → ν 107 (o + Q p) = zl (aM (fY ln m b (x : Int) y S) (Q p)) ∧ ν 108 (o + Q p) = zl (bM (fY ln m b (x : Int) y S) (Q p))) → ∃ (ν' : zNu) (w2 w5 : Value), zE zc_X12_closedFills (zF zT0 (d + 3)) 60 [.ref 92, .long (zl (fY ln m b (x : Int) y S).1), v2, .int (zi (x : Int)), .int (zi (y : Int)), v5] [] (zm len Y ν) = zE zc_X12_closedFills (zF zT0 (d + 3)) 60 [.ref 92, .long (zl (fY ln m b (x : Int) ((mW (mkF ln b m) 1).toNat + 1) S).1), w2, .int (zi (x : Int)), .int (zi (((mW (mkF ln b m) 1).toNat + 1 : Nat) : Int)), w5] [] (zm len Y ν') ∧ PI ln m b (fY ln m b (x : Int) ((mW (mkF ln b m) 1).toNat + 1) S) ∧ (∀ p, p < N → ν' 107 (o + Q p) = zl (aM (fY ln m b (x : Int) ((mW (mkF ln b m) 1).toNat + 1) S) (Q p)) ∧ ν' 108 (o + Q p) = zl (bM (fY ln m b (x : Int) ((mW (mkF ln b m) 1).toNat + 1) S) (Q p))) ∧ frXm o Q N ν ν' := by
  have w1 := mW_b hV b 1
  intro k
  induction k with
  | zero =>
    intro y hy ν v2 v5 hW hT hP hC
    have : y = (mW (mkF ln b m) 1).toNat + 1 := by omega
    subst this
    exact ⟨ν, v2, v5, rfl, hP, hC, frXm_rf o Q N ν⟩
  | succ k ih =>
    intro y hy ν v2 v5 hW hT hP hC
    obtain ⟨ν1, u2, u5, A, A1, A2, A3⟩ := cf_s d len ho hN hm hV hB hc hW hT hx (show (y : Int) ≤ mW (mkF ln b m) 1 by omega) hP hC v2 v5
    obtain ⟨ν2, w2, w5, B, B1, B2, B3⟩ := ih (y + 1) (by omega) ν1 u2 u5 (WP_v hW (A3.1 102 (by decide) (by decide) (by decide)) (A3.1 105 (by decide) (by decide) (by decide))) (TU_v hT (A3.1 114 (by decide) (by decide) (by decide))) A1 A2
    exact ⟨ν2, w2, w5, A.trans B, B1, B2, frXm_tr A3 B3⟩
theorem cf_x (d len : Nat) (ho : o ≤ 264) (hN : N ≤ 24) (hm : m ≤ 24) (hV : LV ln m) (hB : BQ ln m b N Q) (hc : clF ln b m = 1) {Y : zMu} (S : Stt) : ∀ k x : Nat, x + k = (mW (mkF ln b m) 0).toNat + 1 → ∀ (ν : zNu) (v2 v4 v5 : Value), WP o Y ν ln Q N → TU Q N (mkF ln b m) (lqP ln Q N) Y ν → PI ln m b (fX ln m b x S) → (∀ p, p < N → ν 107 (o + Q p) = zl (aM (fX ln m b x S) (Q p)) ∧ ν 108 (o + Q p) = zl (bM (fX ln m b x S) (Q p))) → ∃ ν', zE zc_X12_closedFills (zF zT0 (d + 3)) 48 [.ref 92, .long (zl (fX ln m b x S).1), v2, .int (zi (x : Int)), v4, v5] [] (zm len Y ν) = some (.long (zl (fX ln m b ((mW (mkF ln b m) 0).toNat + 1) S).1), zm len Y ν') ∧ (∀ p, p < N → ν' 107 (o + Q p) = zl (aM (fX ln m b ((mW (mkF ln b m) 0).toNat + 1) S) (Q p)) ∧ ν' 108 (o + Q p) = zl (bM (fX ln m b ((mW (mkF ln b m) 0).toNat + 1) S) (Q p))) ∧ frXm o Q N ν ν' := by
  have w0 := mW_b hV b 0
  have w1 := mW_b hV b 1
  intro k
  induction k with
  | zero =>
    intro x hx ν v2 v4 v5 hW hT hP hC
    have hx1 : x = (mW (mkF ln b m) 0).toNat + 1 := by omega
    have m0 : zF zT0 (d + 3) 213 [.ref 92, .int (zi 0)] (zm len Y ν) = some (.int (zi (mW (mkF ln b m) 0)), zm len Y ν) := F_mst (d + 2) len (hV.2 b) hT (k := 0) (by decide)
    rw [← hx1]
    refine ⟨ν, ?_, hC, frXm_rf o Q N ν⟩
    rw [B_X12_closedFills_48]
    simp (disch := omega) only [m0, B_X12_closedFills_54, zbi_some, zbl_some, zbv_some, zbi_none, zbl_none, zbv_none, zbi_ite, zbl_ite, zbv_ite, zbZ, zbO, zc_lt, zc_le, zc_ge, zc_gt, zc_eq, zk0, zk1, zk2, zk3, zk4, zk5, zk6, zk7, zk8, zk9, zk10, zk11, zk12, zk14, zk15, zk16, zk17, zk19, zk20, zk21, zk24, zk25, zk30, zk32, zk36, zk40, zk45, zk50, zk64, zk97, zk99, zk100, zk102, zk122, zk128, zk255, zk800, zk801, zk900, zk999, zk1000, zk1997, zk9999, zk10000, zk100000, zk99999, zk9999999, zk999999999, zk2147483647, zlc0, zlc1, zlc2, zlc3, zlc4, zlc23, zlc99, zlc100, zlc9999999, zlc999999999999, zlc1073741824, zi_neg, zi_add, zi_sub, zi_mul, zl_neg, zl_add, zl_sub, zl_mul, zi_toInt, zi_nat, zi_le, zi_lt, zi_eq, zl_le, zl_lt, zl_eq, zl_toInt, zl_of32, zi_of64, zi_div, zl_div, zmodI, ↓reduceIte, zTle, zFle, zTlt, zFlt, zTeq, zFeq, if_true, if_false, and_self, and_true, true_and, and_false, false_and, or_self, or_true, true_or, or_false, false_or, not_true_eq_false, not_false_eq_true, zcastA, zcastL, znatC, zab, Int.reduceAdd, Int.reduceSub, Int.reduceMul, Int.reduceNeg, Int.reduceToNat, Nat.reduceAdd]
  | succ k ih =>
    intro x hx ν v2 v4 v5 hW hT hP hC
    have m0 : zF zT0 (d + 3) 213 [.ref 92, .int (zi 0)] (zm len Y ν) = some (.int (zi (mW (mkF ln b m) 0)), zm len Y ν) := F_mst (d + 2) len (hV.2 b) hT (k := 0) (by decide)
    have P : zE zc_X12_closedFills (zF zT0 (d + 3)) 48 [.ref 92, .long (zl (fX ln m b x S).1), v2, .int (zi (x : Int)), v4, v5] [] (zm len Y ν) = zE zc_X12_closedFills (zF zT0 (d + 3)) 60 [.ref 92, .long (zl (fX ln m b x S).1), v2, .int (zi (x : Int)), .int (zi ((0 : Nat) : Int)), v5] [] (zm len Y ν) := by
      rw [B_X12_closedFills_48]
      simp (disch := omega) only [m0, B_X12_closedFills_54, zbi_some, zbl_some, zbv_some, zbi_none, zbl_none, zbv_none, zbi_ite, zbl_ite, zbv_ite, zbZ, zbO, zc_lt, zc_le, zc_ge, zc_gt, zc_eq, zk0, zk1, zk2, zk3, zk4, zk5, zk6, zk7, zk8, zk9, zk10, zk11, zk12, zk14, zk15, zk16, zk17, zk19, zk20, zk21, zk24, zk25, zk30, zk32, zk36, zk40, zk45, zk50, zk64, zk97, zk99, zk100, zk102, zk122, zk128, zk255, zk800, zk801, zk900, zk999, zk1000, zk1997, zk9999, zk10000, zk100000, zk99999, zk9999999, zk999999999, zk2147483647, zlc0, zlc1, zlc2, zlc3, zlc4, zlc23, zlc99, zlc100, zlc9999999, zlc999999999999, zlc1073741824, zi_neg, zi_add, zi_sub, zi_mul, zl_neg, zl_add, zl_sub, zl_mul, zi_toInt, zi_nat, zi_le, zi_lt, zi_eq, zl_le, zl_lt, zl_eq, zl_toInt, zl_of32, zi_of64, zi_div, zl_div, zmodI, ↓reduceIte, zTle, zFle, zTlt, zFlt, zTeq, zFeq, if_true, if_false, and_self, and_true, true_and, and_false, false_and, or_self, or_true, true_or, or_false, false_or, not_true_eq_false, not_false_eq_true, zcastA, zcastL, znatC, zab, Int.reduceAdd, Int.reduceSub, Int.reduceMul, Int.reduceNeg, Int.reduceToNat, Nat.reduceAdd]
    obtain ⟨ν1, u2, u5, A, A1, A2, A3⟩ := cf_y d len ho hN hm hV hB hc (Y := Y) (show (x : Int) ≤ mW (mkF ln b m) 0 by omega) (fX ln m b x S) ((mW (mkF ln b m) 1).toNat + 1) 0 (by omega) ν v2 v5 hW hT hP hC
    have hT1 := TU_v hT (A3.1 114 (by decide) (by decide) (by decide))
    have m1 : zF zT0 (d + 3) 213 [.ref 92, .int (zi 1)] (zm len Y ν1) = some (.int (zi (mW (mkF ln b m) 1)), zm len Y ν1) := F_mst (d + 2) len (hV.2 b) hT1 (k := 1) (by decide)
    have R : ∀ c : Int64, zE zc_X12_closedFills (zF zT0 (d + 3)) 60 [.ref 92, .long c, u2, .int (zi (x : Int)), .int (zi (((mW (mkF ln b m) 1).toNat + 1 : Nat) : Int)), u5] [] (zm len Y ν1) = zE zc_X12_closedFills (zF zT0 (d + 3)) 48 [.ref 92, .long c, zclr u2, .int (zi ((x + 1 : Nat) : Int)), .int (zi (((mW (mkF ln b m) 1).toNat + 1 : Nat) : Int)), u5] [] (zm len Y ν1) := fun c => by
      rw [B_X12_closedFills_60]
      simp (disch := omega) only [m1, B_X12_closedFills_67, zbi_some, zbl_some, zbv_some, zbi_none, zbl_none, zbv_none, zbi_ite, zbl_ite, zbv_ite, zbZ, zbO, zc_lt, zc_le, zc_ge, zc_gt, zc_eq, zk0, zk1, zk2, zk3, zk4, zk5, zk6, zk7, zk8, zk9, zk10, zk11, zk12, zk14, zk15, zk16, zk17, zk19, zk20, zk21, zk24, zk25, zk30, zk32, zk36, zk40, zk45, zk50, zk64, zk97, zk99, zk100, zk102, zk122, zk128, zk255, zk800, zk801, zk900, zk999, zk1000, zk1997, zk9999, zk10000, zk100000, zk99999, zk9999999, zk999999999, zk2147483647, zlc0, zlc1, zlc2, zlc3, zlc4, zlc23, zlc99, zlc100, zlc9999999, zlc999999999999, zlc1073741824, zi_neg, zi_add, zi_sub, zi_mul, zl_neg, zl_add, zl_sub, zl_mul, zi_toInt, zi_nat, zi_le, zi_lt, zi_eq, zl_le, zl_lt, zl_eq, zl_toInt, zl_of32, zi_of64, zi_div, zl_div, zmodI, ↓reduceIte, zTle, zFle, zTlt, zFlt, zTeq, zFeq, if_true, if_false, and_self, and_true, true_and, and_false, false_and, or_self, or_true, true_or, or_false, false_or, not_true_eq_false, not_false_eq_true, zcastA, zcastL, znatC, zab, Int.reduceAdd, Int.reduceSub, Int.reduceMul, Int.reduceNeg, Int.reduceToNat, Nat.reduceAdd]
    obtain ⟨ν2, B, B1, B2⟩ := ih (x + 1) (by omega) ν1 (zclr u2) (.int (zi (((mW (mkF ln b m) 1).toNat + 1 : Nat) : Int))) u5 (WP_v hW (A3.1 102 (by decide) (by decide) (by decide)) (A3.1 105 (by decide) (by decide) (by decide))) hT1 A1 A2
    exact ⟨ν2, (P.trans A).trans ((R _).trans B), B1, frXm_tr A3 B2⟩
theorem F_clo (d len : Nat) (ho : o ≤ 264) (hN : N ≤ 24) (hm : m ≤ 24) (hV : LV ln m) (hB : BQ ln m b N Q) (hc : clF ln b m = 1) {Y : zMu} {ν : zNu} (hW : WP o Y ν ln Q N) (hT : TU Q N (mkF ln b m) (lqP ln Q N) Y ν) : ∃ ν', zF zT0 (d + 4) 216 [.ref 92] (zm len Y ν) = some (.long (zl (SF ln m b).1), zm len Y ν') ∧ (∀ p, p < N → ν' 107 (o + Q p) = zl (aM (SF ln m b) (Q p)) ∧ ν' 108 (o + Q p) = zl (bM (SF ln m b) (Q p))) ∧ frXm o Q N ν ν' := by
  obtain ⟨ν1, w2, A, A1, A2⟩ := cf_1 (zF zT0 (d + 3)) len ho hN hB.2.1 (zl 0) hW.1 (fun p hp => ⟨(hW.2 p hp).1, (hW.2 p hp).2.1⟩) N 0 (by omega) ν zU zU zU (fun p hp => by omega)
  obtain ⟨ν2, B, B1, B2⟩ := cf_x d len ho hN hm hV hB hc (Y := Y) (0, lo0 ln m b, hi0 ln m b) ((mW (mkF ln b m) 0).toNat + 1) 0 (by omega) ν1 w2 zU zU (WP_v hW (A2.1 102 (by decide) (by decide) (by decide)) (A2.1 105 (by decide) (by decide) (by decide))) (TU_v hT (A2.1 114 (by decide) (by decide) (by decide))) (PI_0 hV) A1
  refine ⟨ν2, ?_, B1, frXm_tr A2 B2⟩
  rw [B_X12_closedFills]
  exact A.trans B
theorem F_wo1 (d len : Nat) (ho : o ≤ 264) (hN : N ≤ 24) (hV : LV ln m) (hm : m ≤ 24) (hB : BQ ln m b N Q) (hc : clF ln b m = 1) {Y : zMu} {ν : zNu} (hW : WP o Y ν ln Q N) : ∃ (Y' : zMu) (ν' : zNu), zF zT0 (d + 5) 218 [.ref 92, .int (zi 1)] (zm len Y ν) = some (.null, zm len Y' ν') ∧ SolM o Q N ln m b Y' ν' ∧ frW o Q N Y Y' ν ν' := by
  have hms := hV.2 b
  have e4 := hB.2.2.2.1
  obtain ⟨Y1, ν1, A, A1, A2⟩ := F_unk (d + 3) len ho hN (by rw [e4]; exact hms) hW
  rw [e4] at A1
  have hW1 := WP_t hW A2
  obtain ⟨ν2, B, B1, B2⟩ := F_clo d len ho hN hm hV hB hc hW1 A1
  have sb := SF_b hV hm b
  obtain ⟨Y3, C, C1, C2, C3⟩ := wo_l (Q := Q) (zF zT0 (d + 4)) len ho hN sb (zi 1) ν2 N 0 (by omega) Y1 zU hW1.1 (fun p hp => ⟨(hW1.2 p hp).1, (hW1.2 p hp).2.1⟩) (fun p hp => by omega)
  have C : zE zc_X12_worksOut (zF zT0 (d + 4)) 23 [.ref 92, .int (zi 1), .long (zl (SF ln m b).1), zU, .int (zi 0)] [] (zm len Y1 ν2) = _ := C
  have f3 : frW o Q N Y1 Y3 ν2 ν2 := ⟨fun r _ a _ _ => C2 r a, fun i _ _ => by rw [C2 92 (by decide)], C3, fun _ _ _ _ _ => rfl, fun _ _ => ⟨rfl, rfl⟩⟩
  refine ⟨Y3, ν2, ?_, fun p hp => ⟨C1 p hp, fun h0 => ?_⟩, frW_tr (frW_t A2) (frW_tr (frW_x Y1 B2) f3)⟩
  · rw [B_X12_worksOut]
    simp (disch := omega) only [A, B_X12_worksOut_4, B, B_X12_worksOut_12, B_X12_worksOut_19, zbi_some, zbl_some, zbv_some, zbi_none, zbl_none, zbv_none, zbi_ite, zbl_ite, zbv_ite, zbZ, zbO, zc_lt, zc_le, zc_ge, zc_gt, zc_eq, zk0, zk1, zk2, zk3, zk4, zk5, zk6, zk7, zk8, zk9, zk10, zk11, zk12, zk14, zk15, zk16, zk17, zk19, zk20, zk21, zk24, zk25, zk30, zk32, zk36, zk40, zk45, zk50, zk64, zk97, zk99, zk100, zk102, zk122, zk128, zk255, zk800, zk801, zk900, zk999, zk1000, zk1997, zk9999, zk10000, zk100000, zk99999, zk9999999, zk999999999, zk2147483647, zlc0, zlc1, zlc2, zlc3, zlc4, zlc23, zlc99, zlc100, zlc9999999, zlc999999999999, zlc1073741824, zi_neg, zi_add, zi_sub, zi_mul, zl_neg, zl_add, zl_sub, zl_mul, zi_toInt, zi_nat, zi_le, zi_lt, zi_eq, zl_le, zl_lt, zl_eq, zl_toInt, zl_of32, zi_of64, zi_div, zl_div, zmodI, ↓reduceIte, zTle, zFle, zTlt, zFlt, zTeq, zFeq, if_true, if_false, and_self, and_true, true_and, and_false, false_and, or_self, or_true, true_or, or_false, false_or, not_true_eq_false, not_false_eq_true, zcastA, zcastL, znatC, zab, Int.reduceAdd, Int.reduceSub, Int.reduceMul, Int.reduceNeg, Int.reduceToNat, Nat.reduceAdd]
    exact C
  · obtain ⟨c1, c2⟩ := B1 p hp
    rw [c1, c2]
    unfold aM bM
    rw [if_neg h0, if_neg h0]
    exact ⟨rfl, rfl⟩
end CL

/-! TABLET: one fill of a closed BLOCK, the model's, whole -/
section F4
variable {ln : Nat → Ln} {Q : Nat → Nat} {N o m b : Nat}
theorem F_fit (d len : Nat) (ho : o ≤ 264) (hN : N ≤ 24) (hm : m ≤ 24) (hV : LV ln m) (hB : BQ ln m b N Q) (hc : clF ln b m = 1) {Y : zMu} {ν : zNu} (hW : WP o Y ν ln Q N) (hT : TU Q N (mkF ln b m) (lqP ln Q N) Y ν) {x y : Int} (hx : 0 ≤ x ∧ x ≤ 99) (hy : 0 ≤ y ∧ y ≤ 99) (x3 : Int32) {S : Stt} (hP : PI ln m b S) (hC : ∀ p, p < N → ν 107 (o + Q p) = zl (aM S (Q p)) ∧ ν 108 (o + Q p) = zl (bM S (Q p))) : ∃ (ν' : zNu) (v : Int), zF zT0 (d + 3) 215 [.ref 92, .int (zi x), .int (zi y), .int x3] (zm len Y ν) = some (.int (zi v), zm len Y ν') ∧ (v = 0 ∨ v = 1) ∧ (stp ln m b x y S).1 = S.1 + v ∧ PI ln m b (stp ln m b x y S) ∧ (∀ p, p < N → ν' 107 (o + Q p) = zl (aM (stp ln m b x y S) (Q p)) ∧ ν' 108 (o + Q p) = zl (bM (stp ln m b x y S) (Q p))) ∧ frXm o Q N ν ν' := by
  obtain ⟨ν1, w5, A, A1, A2⟩ := F_sum d len ho hN hV hB hW hT hx hy x3
  obtain ⟨l1, l2, l3⟩ := lq_p hB
  have e31 := hW.1
  have e36 := hT.2.1
  have db := due_b hV hm b hx hy
  have zm1 : (-1 : Int32) = zi (-1) := rfl
  have hW1 := WP_v hW (A2 102 (by decide)) (A2 105 (by decide))
  have hC1 : ∀ p, p < N → ν1 107 (o + Q p) = zl (aM S (Q p)) ∧ ν1 108 (o + Q p) = zl (bM S (Q p)) := fun p hp => by
    rw [A2 107 (by decide), A2 108 (by decide)]
    exact hC p hp
  by_cases z : loF ln b m = -1
  · have lz := l2.mpr z
    rw [lz] at e36
    have dT : dueF ln m b x y = dueT ln m b x y := by unfold dueF; rw [if_pos z]
    have h0 : h0B ln m b = 0 := by unfold h0B; rw [if_pos z]
    by_cases t0 : dueT ln m b x y = 0
    · have f : 0 ≤ dueF ln m b x y ∧ dueF ln m b x y ≤ h0B ln m b := by omega
      have h16 : ∀ p, p < N → ν1 116 p = zl (wV ln m b x y (Q p)) := fun p hp => by
        rw [A1 p hp]
        unfold wV
        rw [if_neg (show ¬ (Q p : Int) = loF ln b m by omega)]
      obtain ⟨ν2, B, B1, B2⟩ := F_note (d + 1) len ho hN hV hB hc hW1 hx hy f hP h16 hC1
      refine ⟨ν2, 1, A.trans ?_, Or.inr rfl, (stp_f hV hc f (j := 0) S).1, (PI_s hV hc hx hy f hP).1, B1, frXm_tr (frXm_16 A2) (frXm_v B2)⟩
      rw [B_X12_fits_115, t0]
      simp (disch := omega) only [e31, e36, zm1, B, B_X12_fits_228, zbi_some, zbl_some, zbv_some, zbi_none, zbl_none, zbv_none, zbi_ite, zbl_ite, zbv_ite, zbZ, zbO, zc_lt, zc_le, zc_ge, zc_gt, zc_eq, zk0, zk1, zk2, zk3, zk4, zk5, zk6, zk7, zk8, zk9, zk10, zk11, zk12, zk14, zk15, zk16, zk17, zk19, zk20, zk21, zk24, zk25, zk30, zk32, zk36, zk40, zk45, zk50, zk64, zk97, zk99, zk100, zk102, zk122, zk128, zk255, zk800, zk801, zk900, zk999, zk1000, zk1997, zk9999, zk10000, zk100000, zk99999, zk9999999, zk999999999, zk2147483647, zlc0, zlc1, zlc2, zlc3, zlc4, zlc23, zlc99, zlc100, zlc9999999, zlc999999999999, zlc1073741824, zi_neg, zi_add, zi_sub, zi_mul, zl_neg, zl_add, zl_sub, zl_mul, zi_toInt, zi_nat, zi_le, zi_lt, zi_eq, zl_le, zl_lt, zl_eq, zl_toInt, zl_of32, zi_of64, zi_div, zl_div, zmodI, ↓reduceIte, zTle, zFle, zTlt, zFlt, zTeq, zFeq, if_true, if_false, and_self, and_true, true_and, and_false, false_and, or_self, or_true, true_or, or_false, false_or, not_true_eq_false, not_false_eq_true, zcastA, zcastL, znatC, zab, Int.reduceAdd, Int.reduceSub, Int.reduceMul, Int.reduceNeg, Int.reduceToNat, Nat.reduceAdd]
    · have f : ¬ (0 ≤ dueF ln m b x y ∧ dueF ln m b x y ≤ h0B ln m b) := by omega
      have sS := stp_nf hc f S
      rw [sS]
      refine ⟨ν1, 0, A.trans ?_, Or.inl rfl, by omega, hP, hC1, frXm_16 A2⟩
      rw [dT] at db
      rw [B_X12_fits_115]
      simp (disch := omega) only [e31, e36, zm1, t0, zbi_some, zbl_some, zbv_some, zbi_none, zbl_none, zbv_none, zbi_ite, zbl_ite, zbv_ite, zbZ, zbO, zc_lt, zc_le, zc_ge, zc_gt, zc_eq, zk0, zk1, zk2, zk3, zk4, zk5, zk6, zk7, zk8, zk9, zk10, zk11, zk12, zk14, zk15, zk16, zk17, zk19, zk20, zk21, zk24, zk25, zk30, zk32, zk36, zk40, zk45, zk50, zk64, zk97, zk99, zk100, zk102, zk122, zk128, zk255, zk800, zk801, zk900, zk999, zk1000, zk1997, zk9999, zk10000, zk100000, zk99999, zk9999999, zk999999999, zk2147483647, zlc0, zlc1, zlc2, zlc3, zlc4, zlc23, zlc99, zlc100, zlc9999999, zlc999999999999, zlc1073741824, zi_neg, zi_add, zi_sub, zi_mul, zl_neg, zl_add, zl_sub, zl_mul, zi_toInt, zi_nat, zi_le, zi_lt, zi_eq, zl_le, zl_lt, zl_eq, zl_toInt, zl_of32, zi_of64, zi_div, zl_div, zmodI, ↓reduceIte, zTle, zFle, zTlt, zFlt, zTeq, zFeq, if_true, if_false, and_self, and_true, true_and, and_false, false_and, or_self, or_true, true_or, or_false, false_or, not_true_eq_false, not_false_eq_true, zcastA, zcastL, znatC, zab, Int.reduceAdd, Int.reduceSub, Int.reduceMul, Int.reduceNeg, Int.reduceToNat, Nat.reduceAdd]
  · have lz : ¬ lqP ln Q N = -1 := fun q => z (l2.mp q)
    obtain ⟨t, ht⟩ : ∃ t : Nat, lqP ln Q N = (t : Int) := ⟨(lqP ln Q N).toNat, by omega⟩
    have tN : t < N := by omega
    have qt := (l3 t tN).mp ht.symm
    rw [ht] at e36
    obtain ⟨e112, q24, hv, hM⟩ := hW1.2 t tN
    have e112 : Y 112 t = zi ((o : Int) + (Q t : Int)) := e112
    have G := F_sgo (ln := ln) (d + 1) len ν1 ho q24 hM.1 hv.1
    have h0 : h0B ln m b = 99999 := by unfold h0B; rw [if_neg z]
    have dD : -dueT ln m b x y * (if (ln (Q t)).1 = 0 then (1 : Int) else -1) = dueF ln m b x y := by
      unfold dueF
      rw [if_neg z, ← qt]
      show _ = -(sgF (ln (Q t)).1 (dueT ln m b x y))
      rw [← sg_m, Int.mul_comm, Int.mul_neg]
    have T179 : zE zc_X12_fits (zF zT0 (d + 2)) 115 [.ref 92, .int (zi x), .int (zi y), .int x3, .long (zl (dueT ln m b x y)), w5, .int (zi (N : Int)), zU] [] (zm len Y ν1) = zE zc_X12_fits (zF zT0 (d + 2)) 179 [.ref 92, .int (zi x), .int (zi y), .int x3, .long (zl (dueT ln m b x y)), w5, .int (zi (N : Int)), zU] [.int (zi (if (ln (Q t)).1 = 0 then 1 else -1)), .long (zl (-dueT ln m b x y))] (zm len Y ν1) := by
      rw [B_X12_fits_115]
      simp (disch := omega) only [e31, e36, zm1, e112, G, zbi_some, zbl_some, zbv_some, zbi_none, zbl_none, zbv_none, zbi_ite, zbl_ite, zbv_ite, zbZ, zbO, zc_lt, zc_le, zc_ge, zc_gt, zc_eq, zk0, zk1, zk2, zk3, zk4, zk5, zk6, zk7, zk8, zk9, zk10, zk11, zk12, zk14, zk15, zk16, zk17, zk19, zk20, zk21, zk24, zk25, zk30, zk32, zk36, zk40, zk45, zk50, zk64, zk97, zk99, zk100, zk102, zk122, zk128, zk255, zk800, zk801, zk900, zk999, zk1000, zk1997, zk9999, zk10000, zk100000, zk99999, zk9999999, zk999999999, zk2147483647, zlc0, zlc1, zlc2, zlc3, zlc4, zlc23, zlc99, zlc100, zlc9999999, zlc999999999999, zlc1073741824, zi_neg, zi_add, zi_sub, zi_mul, zl_neg, zl_add, zl_sub, zl_mul, zi_toInt, zi_nat, zi_le, zi_lt, zi_eq, zl_le, zl_lt, zl_eq, zl_toInt, zl_of32, zi_of64, zi_div, zl_div, zmodI, ↓reduceIte, zTle, zFle, zTlt, zFlt, zTeq, zFeq, if_true, if_false, and_self, and_true, true_and, and_false, false_and, or_self, or_true, true_or, or_false, false_or, not_true_eq_false, not_false_eq_true, zcastA, zcastL, znatC, zab, Int.reduceAdd, Int.reduceSub, Int.reduceMul, Int.reduceNeg, Int.reduceToNat, Nat.reduceAdd]
    have mE : zl (-dueT ln m b x y) * (zi (if (ln (Q t)).1 = 0 then (1 : Int) else -1)).toInt64 = zl (dueF ln m b x y) := by
      rw [zl_of32 (by split <;> omega), zl_mul, dD]
    by_cases f : 0 ≤ dueF ln m b x y ∧ dueF ln m b x y ≤ 99999
    · have f' : 0 ≤ dueF ln m b x y ∧ dueF ln m b x y ≤ h0B ln m b := by omega
      obtain ⟨ν2, hν2⟩ : ∃ ν2, ν2 = zupl ν1 116 t (zl (dueF ln m b x y)) := ⟨_, rfl⟩
      have f2 : fr16 ν1 ν2 := fun r hr => by rw [hν2, zupl_nx hr]
      have h16 : ∀ p, p < N → ν2 116 p = zl (wV ln m b x y (Q p)) := fun p hp => by
        unfold wV
        rw [hν2]
        by_cases w : p = t
        · subst w
          rw [zupl_ss, if_pos qt]
        · rw [zupl_j w, A1 p hp, if_neg (show ¬ (Q p : Int) = loF ln b m from fun q => w (by have := (l3 p hp).mpr q; omega))]
      have hC2 : ∀ p, p < N → ν2 107 (o + Q p) = zl (aM S (Q p)) ∧ ν2 108 (o + Q p) = zl (bM S (Q p)) := fun p hp => by
        rw [f2 107 (by decide), f2 108 (by decide)]
        exact hC1 p hp
      have hW2 := WP_v hW1 (f2 102 (by decide)) (f2 105 (by decide))
      obtain ⟨ν3, B, B1, B2⟩ := F_note (d + 1) len ho hN hV hB hc hW2 hx hy f' hP h16 hC2
      refine ⟨ν3, 1, A.trans (T179.trans ?_), Or.inr rfl, (stp_f hV hc f' (j := 0) S).1, (PI_s hV hc hx hy f' hP).1, B1, frXm_tr (frXm_16 A2) (frXm_tr (frXm_16 f2) (frXm_v B2))⟩
      have z9 : (99999 : Int64) = zl 99999 := rfl
      obtain ⟨f1, f9⟩ := f
      rw [B_X12_fits_179, mE]
      rw [hν2] at B
      simp (disch := omega) only [e36, z9, B, B_X12_fits_228, zbi_some, zbl_some, zbv_some, zbi_none, zbl_none, zbv_none, zbi_ite, zbl_ite, zbv_ite, zbZ, zbO, zc_lt, zc_le, zc_ge, zc_gt, zc_eq, zk0, zk1, zk2, zk3, zk4, zk5, zk6, zk7, zk8, zk9, zk10, zk11, zk12, zk14, zk15, zk16, zk17, zk19, zk20, zk21, zk24, zk25, zk30, zk32, zk36, zk40, zk45, zk50, zk64, zk97, zk99, zk100, zk102, zk122, zk128, zk255, zk800, zk801, zk900, zk999, zk1000, zk1997, zk9999, zk10000, zk100000, zk99999, zk9999999, zk999999999, zk2147483647, zlc0, zlc1, zlc2, zlc3, zlc4, zlc23, zlc99, zlc100, zlc9999999, zlc999999999999, zlc1073741824, zi_neg, zi_add, zi_sub, zi_mul, zl_neg, zl_add, zl_sub, zl_mul, zi_toInt, zi_nat, zi_le, zi_lt, zi_eq, zl_le, zl_lt, zl_eq, zl_toInt, zl_of32, zi_of64, zi_div, zl_div, zmodI, ↓reduceIte, zTle, zFle, zTlt, zFlt, zTeq, zFeq, if_true, if_false, and_self, and_true, true_and, and_false, false_and, or_self, or_true, true_or, or_false, false_or, not_true_eq_false, not_false_eq_true, zcastA, zcastL, znatC, zab, Int.reduceAdd, Int.reduceSub, Int.reduceMul, Int.reduceNeg, Int.reduceToNat, Nat.reduceAdd]
    · have f' : ¬ (0 ≤ dueF ln m b x y ∧ dueF ln m b x y ≤ h0B ln m b) := by omega
      have sS := stp_nf hc f' S
      rw [sS]
      refine ⟨ν1, 0, A.trans (T179.trans ?_), Or.inl rfl, by omega, hP, hC1, frXm_16 A2⟩
      have z9 : (99999 : Int64) = zl 99999 := rfl
      rw [B_X12_fits_179, mE]
      by_cases n1 : dueF ln m b x y < 0
      · simp (disch := omega) only [n1, z9, zbi_some, zbl_some, zbv_some, zbi_none, zbl_none, zbv_none, zbi_ite, zbl_ite, zbv_ite, zbZ, zbO, zc_lt, zc_le, zc_ge, zc_gt, zc_eq, zk0, zk1, zk2, zk3, zk4, zk5, zk6, zk7, zk8, zk9, zk10, zk11, zk12, zk14, zk15, zk16, zk17, zk19, zk20, zk21, zk24, zk25, zk30, zk32, zk36, zk40, zk45, zk50, zk64, zk97, zk99, zk100, zk102, zk122, zk128, zk255, zk800, zk801, zk900, zk999, zk1000, zk1997, zk9999, zk10000, zk100000, zk99999, zk9999999, zk999999999, zk2147483647, zlc0, zlc1, zlc2, zlc3, zlc4, zlc23, zlc99, zlc100, zlc9999999, zlc999999999999, zlc1073741824, zi_neg, zi_add, zi_sub, zi_mul, zl_neg, zl_add, zl_sub, zl_mul, zi_toInt, zi_nat, zi_le, zi_lt, zi_eq, zl_le, zl_lt, zl_eq, zl_toInt, zl_of32, zi_of64, zi_div, zl_div, zmodI, ↓reduceIte, zTle, zFle, zTlt, zFlt, zTeq, zFeq, if_true, if_false, and_self, and_true, true_and, and_false, false_and, or_self, or_true, true_or, or_false, false_or, not_true_eq_false, not_false_eq_true, zcastA, zcastL, znatC, zab, Int.reduceAdd, Int.reduceSub, Int.reduceMul, Int.reduceNeg, Int.reduceToNat, Nat.reduceAdd]
      · have n2 : ¬ dueF ln m b x y ≤ 99999 := by omega
        simp (disch := omega) only [n1, n2, z9, zbi_some, zbl_some, zbv_some, zbi_none, zbl_none, zbv_none, zbi_ite, zbl_ite, zbv_ite, zbZ, zbO, zc_lt, zc_le, zc_ge, zc_gt, zc_eq, zk0, zk1, zk2, zk3, zk4, zk5, zk6, zk7, zk8, zk9, zk10, zk11, zk12, zk14, zk15, zk16, zk17, zk19, zk20, zk21, zk24, zk25, zk30, zk32, zk36, zk40, zk45, zk50, zk64, zk97, zk99, zk100, zk102, zk122, zk128, zk255, zk800, zk801, zk900, zk999, zk1000, zk1997, zk9999, zk10000, zk100000, zk99999, zk9999999, zk999999999, zk2147483647, zlc0, zlc1, zlc2, zlc3, zlc4, zlc23, zlc99, zlc100, zlc9999999, zlc999999999999, zlc1073741824, zi_neg, zi_add, zi_sub, zi_mul, zl_neg, zl_add, zl_sub, zl_mul, zi_toInt, zi_nat, zi_le, zi_lt, zi_eq, zl_le, zl_lt, zl_eq, zl_toInt, zl_of32, zi_of64, zi_div, zl_div, zmodI, ↓reduceIte, zTle, zFle, zTlt, zFlt, zTeq, zFeq, if_true, if_false, and_self, and_true, true_and, and_false, false_and, or_self, or_true, true_or, or_false, false_or, not_true_eq_false, not_false_eq_true, zcastA, zcastL, znatC, zab, Int.reduceAdd, Int.reduceSub, Int.reduceMul, Int.reduceNeg, Int.reduceToNat, Nat.reduceAdd]
end F4

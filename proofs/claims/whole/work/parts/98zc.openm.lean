/-! TABLET: an open BLOCK, the model's, as the class's -/
section OM
variable {ln : Nat → Ln} {Q : Nat → Nat} {N o m b : Nat}
theorem mk_v (hV : LV ln m) (b : Nat) : ∀ q, q ∈ mkF ln b m → (1 ≤ q.2.1 ∧ q.2.1 ≤ 99999) ∧ 1 ≤ q.2.2 ∧ q.2.2 ≤ 99 := fun q hq => by
  obtain ⟨a1, a2, a3⟩ := mk_mem ln b m q hq
  exact (hV.1 q.1 a1).2.2.2.2.1 q.2 a3
theorem lq_p (hB : BQ ln m b N Q) : (-1 ≤ lqP ln Q N ∧ lqP ln Q N < N) ∧ (lqP ln Q N = -1 ↔ loF ln b m = -1) ∧ ∀ p, p < N → ((p : Int) = lqP ln Q N ↔ (Q p : Int) = loF ln b m) := by
  obtain ⟨h1, h2, h3, h4, h5, h6, h7, h8⟩ := hB
  by_cases z : loF ln b m = -1
  · have e := h5 z
    rw [e, z]
    refine ⟨by omega, ⟨fun _ => rfl, fun _ => rfl⟩, fun p hp => ⟨fun q => by omega, fun q => by omega⟩⟩
  · obtain ⟨t, t1, t2, t3⟩ := h6 z
    rw [t1]
    refine ⟨by omega, ⟨fun q => by omega, fun q => absurd q z⟩, fun p hp => ⟨fun q => ?_, fun q => ?_⟩⟩
    · have : p = t := by omega
      rw [this]
      exact t3
    · rcases Nat.lt_or_ge p t with w | w
      · have := h2 p t w t2
        omega
      · rcases Nat.lt_or_ge t p with w2 | w2
        · have := h2 t p w2 hp
          omega
        · omega
theorem F_opn (d len : Nat) (ho : o ≤ 264) (hN : N ≤ 24) (hV : LV ln m) (hB : BQ ln m b N Q) (hc : clF ln b m = 0) {Y : zMu} {ν : zNu} (hW : WP o Y ν ln Q N) (hT : TU Q N (mkF ln b m) (lqP ln Q N) Y ν) : ∃ ν', zF zT0 (d + 1) 217 [.ref 92] (zm len Y ν) = some (.long (zl ((mW (mkF ln b m) 0 + 1) * ((mW (mkF ln b m) 1 + 1) * (h0B ln m b + 1)))), zm len Y ν') ∧ (∀ p, p < N → ν' 107 (o + Q p) = zl ((SF ln m b).2.1 (Q p)) ∧ ν' 108 (o + Q p) = zl ((SF ln m b).2.2 (Q p))) ∧ frV o Q N ν ν' := by
  obtain ⟨l1, l2, l3⟩ := lq_p hB
  obtain ⟨h1, h2, h3, h4, h5, h6, h7, h8⟩ := hB
  have e36 := hT.2.1
  have z36 : (-1 : Int32) = zi (-1) := rfl
  obtain ⟨ν1, w2, A, A1, A2⟩ := op_1 (ln := ln) (zF zT0 d) len ho hN h2 (lq := lqP ln Q N) (by omega) (zl (h0B ln m b + 1)) e36 N 0 (by omega) ν zU zU hW (fun p hp => by omega)
  have hW1 := WP_v hW (A2.1 102 (by decide) (by decide)) (A2.1 105 (by decide) (by decide))
  have hT1 : TU Q N (mkF ln b m) (lqP ln Q N) Y ν1 := ⟨hT.1, hT.2.1, fun x q hq => by
    rw [A2.1 114 (by decide) (by decide)]
    exact hT.2.2 x q hq⟩
  obtain ⟨ν2, B, B1, B2, B3⟩ := op_2 (ln := ln) (zF zT0 d) len ho hN h2 (hV.2 b) (mk_v hV b) (h0B ln m b + 1) (fun p => (ln (Q p)).2.2.2.1 + l9 (lqP ln Q N) p) (mkF ln b m).length 0 (by omega) ν1 w2 zU hW1 hT1 (fun p hp => by
    show ν1 108 (o + Q p) = zl ((ln (Q p)).2.2.2.1 + l9 (lqP ln Q N) p + 0)
    rw [Int.add_zero]
    exact (A1 p hp).2)
  obtain ⟨p2a, p2b⟩ := sO_2 (hV.2 b) 0
  have pe : (h0B ln m b + 1) * pO (mkF ln b m) (mkF ln b m).length = (mW (mkF ln b m) 0 + 1) * ((mW (mkF ln b m) 1 + 1) * (h0B ln m b + 1)) := by
    rw [p2b]
    show (h0B ln m b + 1) * (1 * (mW (mkF ln b m) 0 + 1) * (mW (mkF ln b m) 1 + 1)) = _
    rw [Int.one_mul, Int.mul_comm, Int.mul_assoc]
  rw [pe] at B
  have B : zE zc_X12_openFills (zF zT0 d) 95 [.ref 92, .long (zl ((h0B ln m b + 1) * 1)), w2, .int (zi 0), zU] [] (zm len Y ν1) = _ := B
  rw [Int.mul_one] at B
  refine ⟨ν2, ?_, fun p hp => ?_, frV_tr A2 B3⟩
  · have T15 : zF zT0 (d + 1) 217 [.ref 92] (zm len Y ν) = zE zc_X12_openFills (zF zT0 d) 15 [.ref 92, zU, zU, zU, zU] [.long (zl (h0B ln m b + 1))] (zm len Y ν) := by
      rw [B_X12_openFills]
      unfold h0B
      by_cases z : loF ln b m = -1
      · have lz := l2.mpr z
        rw [if_pos z]
        rw [lz] at e36
        simp (disch := omega) only [e36, z36, zbi_some, zbl_some, zbv_some, zbi_none, zbl_none, zbv_none, zbi_ite, zbl_ite, zbv_ite, zbZ, zbO, zc_lt, zc_le, zc_ge, zc_gt, zc_eq, zk0, zk1, zk2, zk3, zk4, zk5, zk6, zk7, zk8, zk9, zk10, zk11, zk12, zk14, zk15, zk16, zk17, zk19, zk20, zk21, zk24, zk25, zk30, zk32, zk36, zk40, zk45, zk50, zk64, zk97, zk99, zk100, zk102, zk122, zk128, zk255, zk800, zk801, zk900, zk999, zk1000, zk1997, zk9999, zk10000, zk100000, zk99999, zk9999999, zk999999999, zk2147483647, zlc0, zlc1, zlc2, zlc3, zlc4, zlc23, zlc99, zlc100, zlc9999999, zlc999999999999, zlc1073741824, zi_neg, zi_add, zi_sub, zi_mul, zl_neg, zl_add, zl_sub, zl_mul, zi_toInt, zi_nat, zi_le, zi_lt, zi_eq, zl_le, zl_lt, zl_eq, zl_toInt, zl_of32, zi_of64, zi_div, zl_div, zmodI, ↓reduceIte, zTle, zFle, zTlt, zFlt, zTeq, zFeq, if_true, if_false, and_self, and_true, true_and, and_false, false_and, or_self, or_true, true_or, or_false, false_or, not_true_eq_false, not_false_eq_true, zcastA, zcastL, znatC, zab, Int.reduceAdd, Int.reduceSub, Int.reduceMul, Int.reduceNeg, Int.reduceToNat, Nat.reduceAdd]
      · have lz : ¬ lqP ln Q N = -1 := fun q => z (l2.mp q)
        rw [if_neg z]
        have z5 : (100000 : Int64) = zl 100000 := rfl
        simp (disch := omega) only [e36, z36, lz, z5, zbi_some, zbl_some, zbv_some, zbi_none, zbl_none, zbv_none, zbi_ite, zbl_ite, zbv_ite, zbZ, zbO, zc_lt, zc_le, zc_ge, zc_gt, zc_eq, zk0, zk1, zk2, zk3, zk4, zk5, zk6, zk7, zk8, zk9, zk10, zk11, zk12, zk14, zk15, zk16, zk17, zk19, zk20, zk21, zk24, zk25, zk30, zk32, zk36, zk40, zk45, zk50, zk64, zk97, zk99, zk100, zk102, zk122, zk128, zk255, zk800, zk801, zk900, zk999, zk1000, zk1997, zk9999, zk10000, zk100000, zk99999, zk9999999, zk999999999, zk2147483647, zlc0, zlc1, zlc2, zlc3, zlc4, zlc23, zlc99, zlc100, zlc9999999, zlc999999999999, zlc1073741824, zi_neg, zi_add, zi_sub, zi_mul, zl_neg, zl_add, zl_sub, zl_mul, zi_toInt, zi_nat, zi_le, zi_lt, zi_eq, zl_le, zl_lt, zl_eq, zl_toInt, zl_of32, zi_of64, zi_div, zl_div, zmodI, ↓reduceIte, zTle, zFle, zTlt, zFlt, zTeq, zFeq, if_true, if_false, and_self, and_true, true_and, and_false, false_and, or_self, or_true, true_or, or_false, false_or, not_true_eq_false, not_false_eq_true, zcastA, zcastL, znatC, zab, Int.reduceAdd, Int.reduceSub, Int.reduceMul, Int.reduceNeg, Int.reduceToNat, Nat.reduceAdd]
    rw [T15, B_X12_openFills_15]
    exact A.trans B
  · obtain ⟨q1, q2⟩ := h1 p hp
    obtain ⟨_, s2, s3⟩ := SF_open hV hc q1
    rw [s2, s3, B2]
    refine ⟨(A1 p hp).1, ?_⟩
    rw [B1 p hp, (sO_2 (hV.2 b) (Q p)).1]
    congr 1
    show (ln (Q p)).2.2.2.1 + l9 (lqP ln Q N) p + (0 + (if mL (mkF ln b m) 0 = (Q p : Int) then mU (mkF ln b m) 0 * mW (mkF ln b m) 0 else 0) + (if mL (mkF ln b m) 1 = (Q p : Int) then mU (mkF ln b m) 1 * mW (mkF ln b m) 1 else 0)) = _
    unfold hvF l9
    by_cases z : (Q p : Int) = loF ln b m
    · obtain ⟨y0, y1, y2, _, _⟩ := lo_mk hV z
      rw [if_pos z, if_pos ((l3 p hp).mpr z), if_neg (fun q => y0 q.symm), if_neg (fun q => y1 q.symm), y2]
      rfl
    · rw [if_neg z, if_neg (fun q => z ((l3 p hp).mp q))]
      unfold vlM
      show _ = (ln (Q p)).2.2.2.1 + _ + _
      omega
end OM

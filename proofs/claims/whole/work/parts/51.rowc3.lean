/-! ROWS: the class's reading of what was arranged -/
theorem fld_1 (b : Nat → Bool) (v w : Nat → Int) (s0 : Int × Int) (k : Nat) : (fld b v w s0 (k + 1)).1 = if b k = true then (if v k < (fld b v w s0 k).1 then v k else (fld b v w s0 k).1) else (fld b v w s0 k).1 := by
  rw [fld_S]
  split
  · split
    · rfl
    · split <;> rfl
  · rfl
theorem fld_bd {b : Nat → Bool} {v w : Nat → Int} {s0 : Int × Int} {lo hi : Int} (h0 : lo ≤ s0.1 ∧ s0.1 ≤ hi) (hv : ∀ k, lo ≤ v k ∧ v k ≤ hi) : ∀ k, lo ≤ (fld b v w s0 k).1 ∧ (fld b v w s0 k).1 ≤ hi
  | 0 => h0
  | k + 1 => by
    have ih := fld_bd (b := b) (w := w) h0 hv k
    rw [fld_1]
    split
    · split
      · exact hv k
      · exact ih
    · exact ih
theorem rR_n {gp : Nat → Nat → Int} (hg : ∀ f g, 0 ≤ gp f g ∧ gp f g ≤ 105) {set n : Nat} {A : Int} (hn : n ≤ 8) (hset : set < 2 ^ n) (h0 : set ≠ 0) (hA : 1000000 ≤ A) : fld (fun f => set.testBit f) (fun f => (rG gp set f).1) (fun f => (rG gp set f).2) (A, 0) n = rR gp set := by
  have hp : 2 ^ n ≤ 2 ^ 8 := Nat.pow_le_pow_right (by decide) hn
  have b := fun f => rG_b hg set set f (Nat.le_refl _) (by omega)
  have f8 : fld (fun f => set.testBit f) (fun f => (rG gp set f).1) (fun f => (rG gp set f).2) (A, 0) (n + (8 - n)) = fld (fun f => set.testBit f) (fun f => (rG gp set f).1) (fun f => (rG gp set f).2) (A, 0) n := fld_hi (fun k hk _ => bit_hi hset hk)
  rw [show n + (8 - n) = 8 by omega] at f8
  rw [← f8]
  rcases fld_init (b := fun f => set.testBit f) (v := fun f => (rG gp set f).1) (w := fun f => (rG gp set f).2) (A := A) (B := 1000000) (n := 8) (fun k _ _ => by
    have := b k
    show (rG gp set k).1 < A ∧ (rG gp set k).1 < 1000000
    omega) with ⟨m1, _⟩ | m2
  · obtain ⟨i, hi⟩ := nz_bit h0
    rw [m1 i (bit8 (by omega) hi)] at hi
    cases hi
  · exact m2
theorem F_least (d len n : Nat) (ν : zNu) (L R : Nat → Int) (μ : zMu) (set : Nat) (hR : Rc n L R μ) (hset : set < 2 ^ n) (h0 : set ≠ 0) (hq : Rq (gpF (μ 52) L R) set (set + 1) μ) : zF zT0 (d + 1) 48 [.ref 51, .int (zi (set : Int))] (zm len μ ν) = some (.int (zi (rR (gpF (μ 52) L R) set).1), zm len μ ν) := by
  have hp : 2 ^ n ≤ 2 ^ 8 := Nat.pow_le_pow_right (by decide) hR.1
  have n8 := hR.1
  obtain ⟨gp, hgp⟩ : ∃ gp, gp = gpF (μ 52) L R := ⟨_, rfl⟩
  have gb : ∀ f g, 0 ≤ gp f g ∧ gp f g ≤ 105 := fun f g => by rw [hgp]; exact gpF_b (fun i => (hR.2.2.1 i).2) (fun i => (hR.2.2.2 i).2) f g
  rw [← hgp] at hq ⊢
  have b := fun f => rG_b gb set set f (Nat.le_refl _) (by omega)
  have hc := hR.2.1
  have fb := fld_bd (b := fun f => set.testBit f) (v := fun f => (rG gp set f).1) (w := fun f => (rG gp set f).2) (s0 := (2147483647, 0)) (lo := 0) (hi := 2147483647) ⟨by show (0 : Int) ≤ 2147483647; omega, Int.le_refl _⟩ (fun k => by
    have := b k
    show 0 ≤ (rG gp set k).1 ∧ (rG gp set k).1 ≤ 2147483647
    omega)
  have K := zloop (f := fun j => zE zc_X3_leastGaps (zF zT0 d) 5 [.ref 51, .int (zi (set : Int)), .int (zi (fld (fun f => set.testBit f) (fun f => (rG gp set f).1) (fun f => (rG gp set f).2) (2147483647, 0) j).1), .int (zi (j : Int))] [] (zm len μ ν)) (n := n) (fun j hj => by
    have ix : ((set : Int) * 8 + (j : Int)).toNat = 8 * set + j := by omega
    have b1 := b j
    have b2 := fb j
    show zE _ _ _ _ _ _ = zE _ _ _ _ _ _
    rw [B_X3_leastGaps_5, fld_1]
    cases q : set.testBit j with
    | true =>
      have h5 := (hq set j (by omega) (fun i h => h) q).1
      simp (disch := omega) only [hc, zb_bit, q, ix, h5, zi_ite, B_X3_leastGaps_37, zbi_some, zbl_some, zbv_some, zbi_none, zbl_none, zbv_none, zbi_ite, zbl_ite, zbv_ite, zbZ, zbO, zc_lt, zc_le, zc_ge, zc_gt, zc_eq, zk0, zk1, zk2, zk3, zk4, zk5, zk6, zk7, zk8, zk9, zk10, zk11, zk12, zk14, zk15, zk16, zk17, zk19, zk20, zk21, zk24, zk25, zk30, zk32, zk36, zk40, zk45, zk50, zk64, zk97, zk99, zk100, zk102, zk122, zk128, zk255, zk800, zk801, zk900, zk999, zk1000, zk1997, zk9999, zk10000, zk100000, zk99999, zk9999999, zk999999999, zk2147483647, zlc0, zlc1, zlc2, zlc3, zlc4, zlc23, zlc99, zlc100, zlc9999999, zlc999999999999, zlc1073741824, zi_neg, zi_add, zi_sub, zi_mul, zl_neg, zl_add, zl_sub, zl_mul, zi_toInt, zi_nat, zi_le, zi_lt, zi_eq, zl_le, zl_lt, zl_eq, zl_toInt, zl_of32, zi_of64, zi_div, zl_div, zmodI, ↓reduceIte, zTle, zFle, zTlt, zFlt, zTeq, zFeq, if_true, if_false, and_self, and_true, true_and, and_false, false_and, or_self, or_true, true_or, or_false, false_or, not_true_eq_false, not_false_eq_true, zcastA, zcastL, znatC, zab, Int.reduceAdd, Int.reduceSub, Int.reduceMul, Int.reduceNeg, Int.reduceToNat, Nat.reduceAdd]
    | false => simp (disch := omega) only [hc, zb_bit, q, Bool.false_eq_true, B_X3_leastGaps_37, zbi_some, zbl_some, zbv_some, zbi_none, zbl_none, zbv_none, zbi_ite, zbl_ite, zbv_ite, zbZ, zbO, zc_lt, zc_le, zc_ge, zc_gt, zc_eq, zk0, zk1, zk2, zk3, zk4, zk5, zk6, zk7, zk8, zk9, zk10, zk11, zk12, zk14, zk15, zk16, zk17, zk19, zk20, zk21, zk24, zk25, zk30, zk32, zk36, zk40, zk45, zk50, zk64, zk97, zk99, zk100, zk102, zk122, zk128, zk255, zk800, zk801, zk900, zk999, zk1000, zk1997, zk9999, zk10000, zk100000, zk99999, zk9999999, zk999999999, zk2147483647, zlc0, zlc1, zlc2, zlc3, zlc4, zlc23, zlc99, zlc100, zlc9999999, zlc999999999999, zlc1073741824, zi_neg, zi_add, zi_sub, zi_mul, zl_neg, zl_add, zl_sub, zl_mul, zi_toInt, zi_nat, zi_le, zi_lt, zi_eq, zl_le, zl_lt, zl_eq, zl_toInt, zl_of32, zi_of64, zi_div, zl_div, zmodI, ↓reduceIte, zTle, zFle, zTlt, zFlt, zTeq, zFeq, if_true, if_false, and_self, and_true, true_and, and_false, false_and, or_self, or_true, true_or, or_false, false_or, not_true_eq_false, not_false_eq_true, zcastA, zcastL, znatC, zab, Int.reduceAdd, Int.reduceSub, Int.reduceMul, Int.reduceNeg, Int.reduceToNat, Nat.reduceAdd])
  have K0 : zE zc_X3_leastGaps (zF zT0 d) 5 [.ref 51, .int (zi (set : Int)), .int (zi 2147483647), .int (zi 0)] [] (zm len μ ν) = zE zc_X3_leastGaps (zF zT0 d) 5 [.ref 51, .int (zi (set : Int)), .int (zi (fld (fun f => set.testBit f) (fun f => (rG gp set f).1) (fun f => (rG gp set f).2) (2147483647, 0) n).1), .int (zi (n : Int))] [] (zm len μ ν) := K
  rw [rR_n gb hR.1 hset h0 (by omega)] at K0
  rw [B_X3_leastGaps]
  refine Eq.trans K0 ?_
  rw [B_X3_leastGaps_5]
  simp (disch := omega) only [hc, zbi_some, zbl_some, zbv_some, zbi_none, zbl_none, zbv_none, zbi_ite, zbl_ite, zbv_ite, zbZ, zbO, zc_lt, zc_le, zc_ge, zc_gt, zc_eq, zk0, zk1, zk2, zk3, zk4, zk5, zk6, zk7, zk8, zk9, zk10, zk11, zk12, zk14, zk15, zk16, zk17, zk19, zk20, zk21, zk24, zk25, zk30, zk32, zk36, zk40, zk45, zk50, zk64, zk97, zk99, zk100, zk102, zk122, zk128, zk255, zk800, zk801, zk900, zk999, zk1000, zk1997, zk9999, zk10000, zk100000, zk99999, zk9999999, zk999999999, zk2147483647, zlc0, zlc1, zlc2, zlc3, zlc4, zlc23, zlc99, zlc100, zlc9999999, zlc999999999999, zlc1073741824, zi_neg, zi_add, zi_sub, zi_mul, zl_neg, zl_add, zl_sub, zl_mul, zi_toInt, zi_nat, zi_le, zi_lt, zi_eq, zl_le, zl_lt, zl_eq, zl_toInt, zl_of32, zi_of64, zi_div, zl_div, zmodI, ↓reduceIte, zTle, zFle, zTlt, zFlt, zTeq, zFeq, if_true, if_false, and_self, and_true, true_and, and_false, false_and, or_self, or_true, true_or, or_false, false_or, not_true_eq_false, not_false_eq_true, zcastA, zcastL, znatC, zab, Int.reduceAdd, Int.reduceSub, Int.reduceMul, Int.reduceNeg, Int.reduceToNat, Nat.reduceAdd]
theorem F_waysOf (d len n : Nat) (ν : zNu) (L R : Nat → Int) (μ : zMu) (set : Nat) (hR : Rc n L R μ) (hset : set < 2 ^ n) (h0 : set ≠ 0) (hq : Rq (gpF (μ 52) L R) set (set + 1) μ) : zF zT0 (d + 1) 49 [.ref 51, .int (zi (set : Int)), .int (zi (rR (gpF (μ 52) L R) set).1)] (zm len μ ν) = some (.int (zi (rR (gpF (μ 52) L R) set).2), zm len μ ν) := by
  have hp : 2 ^ n ≤ 2 ^ 8 := Nat.pow_le_pow_right (by decide) hR.1
  have n8 := hR.1
  obtain ⟨gp, hgp⟩ : ∃ gp, gp = gpF (μ 52) L R := ⟨_, rfl⟩
  have gb : ∀ f g, 0 ≤ gp f g ∧ gp f g ≤ 105 := fun f g => by rw [hgp]; exact gpF_b (fun i => (hR.2.2.1 i).2) (fun i => (hR.2.2.2 i).2) f g
  rw [← hgp] at hq ⊢
  have b := fun f => rG_b gb set set f (Nat.le_refl _) (by omega)
  have hc := hR.2.1
  obtain ⟨k, k1, k2, k3⟩ := rR_min gb (set := set) (by omega) h0
  have bk := b k
  obtain ⟨x, hx⟩ : ∃ x, x = (rR gp set).1 := ⟨_, rfl⟩
  have K := zloop (f := fun j => zE zc_X3_waysOf (zF zT0 d) 5 [.ref 51, .int (zi (set : Int)), .int (zi x), .int (zi (wsm (fun f => set.testBit f) (fun f => (rG gp set f).1) (fun f => (rG gp set f).2) x j)), .int (zi (j : Int))] [] (zm len μ ν)) (n := n) (fun j hj => by
    have ix : ((set : Int) * 8 + (j : Int)).toNat = 8 * set + j := by omega
    have b1 := b j
    show zE _ _ _ _ _ _ = zE _ _ _ _ _ _
    rw [B_X3_waysOf_5, wsm]
    cases q : set.testBit j with
    | true =>
      have h5 := hq set j (by omega) (fun i h => h) q
      by_cases z : (rG gp set j).1 = x
      · simp (disch := omega) only [hc, zb_bit, q, ix, h5.1, h5.2, z, B_X3_waysOf_54, zbi_some, zbl_some, zbv_some, zbi_none, zbl_none, zbv_none, zbi_ite, zbl_ite, zbv_ite, zbZ, zbO, zc_lt, zc_le, zc_ge, zc_gt, zc_eq, zk0, zk1, zk2, zk3, zk4, zk5, zk6, zk7, zk8, zk9, zk10, zk11, zk12, zk14, zk15, zk16, zk17, zk19, zk20, zk21, zk24, zk25, zk30, zk32, zk36, zk40, zk45, zk50, zk64, zk97, zk99, zk100, zk102, zk122, zk128, zk255, zk800, zk801, zk900, zk999, zk1000, zk1997, zk9999, zk10000, zk100000, zk99999, zk9999999, zk999999999, zk2147483647, zlc0, zlc1, zlc2, zlc3, zlc4, zlc23, zlc99, zlc100, zlc9999999, zlc999999999999, zlc1073741824, zi_neg, zi_add, zi_sub, zi_mul, zl_neg, zl_add, zl_sub, zl_mul, zi_toInt, zi_nat, zi_le, zi_lt, zi_eq, zl_le, zl_lt, zl_eq, zl_toInt, zl_of32, zi_of64, zi_div, zl_div, zmodI, ↓reduceIte, zTle, zFle, zTlt, zFlt, zTeq, zFeq, if_true, if_false, and_self, and_true, true_and, and_false, false_and, or_self, or_true, true_or, or_false, false_or, not_true_eq_false, not_false_eq_true, zcastA, zcastL, znatC, zab, Int.reduceAdd, Int.reduceSub, Int.reduceMul, Int.reduceNeg, Int.reduceToNat, Nat.reduceAdd]
      · simp (disch := omega) only [hc, zb_bit, q, ix, h5.1, h5.2, z, B_X3_waysOf_54, zbi_some, zbl_some, zbv_some, zbi_none, zbl_none, zbv_none, zbi_ite, zbl_ite, zbv_ite, zbZ, zbO, zc_lt, zc_le, zc_ge, zc_gt, zc_eq, zk0, zk1, zk2, zk3, zk4, zk5, zk6, zk7, zk8, zk9, zk10, zk11, zk12, zk14, zk15, zk16, zk17, zk19, zk20, zk21, zk24, zk25, zk30, zk32, zk36, zk40, zk45, zk50, zk64, zk97, zk99, zk100, zk102, zk122, zk128, zk255, zk800, zk801, zk900, zk999, zk1000, zk1997, zk9999, zk10000, zk100000, zk99999, zk9999999, zk999999999, zk2147483647, zlc0, zlc1, zlc2, zlc3, zlc4, zlc23, zlc99, zlc100, zlc9999999, zlc999999999999, zlc1073741824, zi_neg, zi_add, zi_sub, zi_mul, zl_neg, zl_add, zl_sub, zl_mul, zi_toInt, zi_nat, zi_le, zi_lt, zi_eq, zl_le, zl_lt, zl_eq, zl_toInt, zl_of32, zi_of64, zi_div, zl_div, zmodI, ↓reduceIte, zTle, zFle, zTlt, zFlt, zTeq, zFeq, if_true, if_false, and_self, and_true, true_and, and_false, false_and, or_self, or_true, true_or, or_false, false_or, not_true_eq_false, not_false_eq_true, zcastA, zcastL, znatC, zab, Int.reduceAdd, Int.reduceSub, Int.reduceMul, Int.reduceNeg, Int.reduceToNat, Nat.reduceAdd]
    | false => simp (disch := omega) only [hc, zb_bit, q, Bool.false_eq_true, B_X3_waysOf_54, zbi_some, zbl_some, zbv_some, zbi_none, zbl_none, zbv_none, zbi_ite, zbl_ite, zbv_ite, zbZ, zbO, zc_lt, zc_le, zc_ge, zc_gt, zc_eq, zk0, zk1, zk2, zk3, zk4, zk5, zk6, zk7, zk8, zk9, zk10, zk11, zk12, zk14, zk15, zk16, zk17, zk19, zk20, zk21, zk24, zk25, zk30, zk32, zk36, zk40, zk45, zk50, zk64, zk97, zk99, zk100, zk102, zk122, zk128, zk255, zk800, zk801, zk900, zk999, zk1000, zk1997, zk9999, zk10000, zk100000, zk99999, zk9999999, zk999999999, zk2147483647, zlc0, zlc1, zlc2, zlc3, zlc4, zlc23, zlc99, zlc100, zlc9999999, zlc999999999999, zlc1073741824, zi_neg, zi_add, zi_sub, zi_mul, zl_neg, zl_add, zl_sub, zl_mul, zi_toInt, zi_nat, zi_le, zi_lt, zi_eq, zl_le, zl_lt, zl_eq, zl_toInt, zl_of32, zi_of64, zi_div, zl_div, zmodI, ↓reduceIte, zTle, zFle, zTlt, zFlt, zTeq, zFeq, if_true, if_false, and_self, and_true, true_and, and_false, false_and, or_self, or_true, true_or, or_false, false_or, not_true_eq_false, not_false_eq_true, zcastA, zcastL, znatC, zab, Int.reduceAdd, Int.reduceSub, Int.reduceMul, Int.reduceNeg, Int.reduceToNat, Nat.reduceAdd])
  have K0 : zE zc_X3_waysOf (zF zT0 d) 5 [.ref 51, .int (zi (set : Int)), .int (zi x), .int (zi 0), .int (zi 0)] [] (zm len μ ν) = zE zc_X3_waysOf (zF zT0 d) 5 [.ref 51, .int (zi (set : Int)), .int (zi x), .int (zi (wsm (fun f => set.testBit f) (fun f => (rG gp set f).1) (fun f => (rG gp set f).2) x n)), .int (zi (n : Int))] [] (zm len μ ν) := K
  have W : wsm (fun f => set.testBit f) (fun f => (rG gp set f).1) (fun f => (rG gp set f).2) x n = (rR gp set).2 := by
    have e1 := rR_n gb hR.1 hset h0 (A := 1000000) (Int.le_refl _)
    have e2 := fld_wsm (b := fun f => set.testBit f) (v := fun f => (rG gp set f).1) (w := fun f => (rG gp set f).2) (A := 1000000) (n := n) (fun k _ _ => by
      have := b k
      show (rG gp set k).1 < 1000000
      omega)
    rw [e1] at e2
    rw [e2, hx]
  rw [W] at K0
  rw [B_X3_waysOf, ← hx]
  refine Eq.trans K0 ?_
  rw [B_X3_waysOf_5]
  simp (disch := omega) only [hc, zbi_some, zbl_some, zbv_some, zbi_none, zbl_none, zbv_none, zbi_ite, zbl_ite, zbv_ite, zbZ, zbO, zc_lt, zc_le, zc_ge, zc_gt, zc_eq, zk0, zk1, zk2, zk3, zk4, zk5, zk6, zk7, zk8, zk9, zk10, zk11, zk12, zk14, zk15, zk16, zk17, zk19, zk20, zk21, zk24, zk25, zk30, zk32, zk36, zk40, zk45, zk50, zk64, zk97, zk99, zk100, zk102, zk122, zk128, zk255, zk800, zk801, zk900, zk999, zk1000, zk1997, zk9999, zk10000, zk100000, zk99999, zk9999999, zk999999999, zk2147483647, zlc0, zlc1, zlc2, zlc3, zlc4, zlc23, zlc99, zlc100, zlc9999999, zlc999999999999, zlc1073741824, zi_neg, zi_add, zi_sub, zi_mul, zl_neg, zl_add, zl_sub, zl_mul, zi_toInt, zi_nat, zi_le, zi_lt, zi_eq, zl_le, zl_lt, zl_eq, zl_toInt, zl_of32, zi_of64, zi_div, zl_div, zmodI, ↓reduceIte, zTle, zFle, zTlt, zFlt, zTeq, zFeq, if_true, if_false, and_self, and_true, true_and, and_false, false_and, or_self, or_true, true_or, or_false, false_or, not_true_eq_false, not_false_eq_true, zcastA, zcastL, znatC, zab, Int.reduceAdd, Int.reduceSub, Int.reduceMul, Int.reduceNeg, Int.reduceToNat, Nat.reduceAdd]
theorem pkP_lt {gp : Nat → Nat → Int} {s : Nat × Int × Int} {n f : Nat} (hs : s.1 < 2 ^ n) (h : pkP gp s f = true) : f < n ∧ s.1.testBit f = true ∧ glF gp s.2.2 f + (rG gp s.1 f).1 = s.2.1 := by
  unfold pkP at h
  cases q : s.1.testBit f with
  | false => rw [q] at h; cases h
  | true =>
    rw [q] at h
    refine ⟨Nat.lt_of_not_le fun z => ?_, rfl, by simpa using h⟩
    rw [bit_hi hs z] at q
    cases q
theorem F_next (d len n : Nat) (ν : zNu) (L R : Nat → Int) (μ : zMu) (set : Nat) (s : Nat × Int × Int) (hR : Rc n L R μ) (hset : set < 2 ^ n) (hs : sub s.1 set) (hq : Rq (gpF (μ 52) L R) set (set + 1) μ) (hj : ∃ j, j < 8 ∧ pkP (gpF (μ 52) L R) s j = true) (hd : 0 ≤ s.2.1 ∧ s.2.1 ≤ 1000000) (hl : s.2.2 = -1 ∨ 0 ≤ s.2.2 ∧ s.2.2 < 8) : zF zT0 (d + 2) 51 [.ref 51, .int (zi (s.1 : Int)), .int (zi s.2.1), .int (zi s.2.2)] (zm len μ ν) = some (.int (zi (pkF (gpF (μ 52) L R) s : Int)), zm len μ ν) := by
  have hp : 2 ^ n ≤ 2 ^ 8 := Nat.pow_le_pow_right (by decide) hR.1
  have n8 := hR.1
  obtain ⟨gp, hgp⟩ : ∃ gp, gp = gpF (μ 52) L R := ⟨_, rfl⟩
  have gb : ∀ f g, 0 ≤ gp f g ∧ gp f g ≤ 105 := fun f g => by rw [hgp]; exact gpF_b (fun i => (hR.2.2.1 i).2) (fun i => (hR.2.2.2 i).2) f g
  have s8 := lt_of_sub hs hset
  have sle : s.1 ≤ set := Nat.le_of_testBit hs
  rw [← hgp] at hq hj ⊢
  obtain ⟨j, j1, j2⟩ := hj
  obtain ⟨_, l2, l3, l4⟩ := lst_ok (P := pkP gp s) (n := 8) (k := 0) (j := j) (by omega) (by omega) j2
  have hF : lst (pkP gp s) 8 0 = pkF gp s := rfl
  rw [hF] at l2 l3 l4
  obtain ⟨m1, m2, m3⟩ := pkP_lt s8 l3
  have hc := hR.2.1
  have b := fun f => rG_b gb s.1 s.1 f (Nat.le_refl _) (by omega)
  have at37 : ∀ (f : Nat) (v : Value), f < n → s.1.testBit f = true → zE zc_X3_nextInRow (zF zT0 (d + 1)) 3 [.ref 51, .int (zi (s.1 : Int)), .int (zi s.2.1), .int (zi s.2.2), .int (zi (f : Int)), v] [] (zm len μ ν) = zE zc_X3_nextInRow (zF zT0 (d + 1)) 37 [.ref 51, .int (zi (s.1 : Int)), .int (zi s.2.1), .int (zi s.2.2), .int (zi (f : Int)), v] [.int (zi (glF gp s.2.2 f))] (zm len μ ν) := fun f v hf hb => by
    rw [B_X3_nextInRow_3]
    unfold glF
    rcases hl with z | z
    · simp (disch := omega) only [hc, zb_bit, hb, z, zbi_some, zbl_some, zbv_some, zbi_none, zbl_none, zbv_none, zbi_ite, zbl_ite, zbv_ite, zbZ, zbO, zc_lt, zc_le, zc_ge, zc_gt, zc_eq, zk0, zk1, zk2, zk3, zk4, zk5, zk6, zk7, zk8, zk9, zk10, zk11, zk12, zk14, zk15, zk16, zk17, zk19, zk20, zk21, zk24, zk25, zk30, zk32, zk36, zk40, zk45, zk50, zk64, zk97, zk99, zk100, zk102, zk122, zk128, zk255, zk800, zk801, zk900, zk999, zk1000, zk1997, zk9999, zk10000, zk100000, zk99999, zk9999999, zk999999999, zk2147483647, zlc0, zlc1, zlc2, zlc3, zlc4, zlc23, zlc99, zlc100, zlc9999999, zlc999999999999, zlc1073741824, zi_neg, zi_add, zi_sub, zi_mul, zl_neg, zl_add, zl_sub, zl_mul, zi_toInt, zi_nat, zi_le, zi_lt, zi_eq, zl_le, zl_lt, zl_eq, zl_toInt, zl_of32, zi_of64, zi_div, zl_div, zmodI, ↓reduceIte, zTle, zFle, zTlt, zFlt, zTeq, zFeq, if_true, if_false, and_self, and_true, true_and, and_false, false_and, or_self, or_true, true_or, or_false, false_or, not_true_eq_false, not_false_eq_true, zcastA, zcastL, znatC, zab, Int.reduceAdd, Int.reduceSub, Int.reduceMul, Int.reduceNeg, Int.reduceToNat, Nat.reduceAdd]
    · have ez : s.2.2 = ((s.2.2.toNat : Nat) : Int) := by omega
      have G := F_gapC d len μ ν s.2.2.toNat f L R (by omega) (by omega) hR.2.2.1 hR.2.2.2
      rw [← ez, ← hgp] at G
      simp (disch := omega) only [hc, zb_bit, hb, G, zbi_some, zbl_some, zbv_some, zbi_none, zbl_none, zbv_none, zbi_ite, zbl_ite, zbv_ite, zbZ, zbO, zc_lt, zc_le, zc_ge, zc_gt, zc_eq, zk0, zk1, zk2, zk3, zk4, zk5, zk6, zk7, zk8, zk9, zk10, zk11, zk12, zk14, zk15, zk16, zk17, zk19, zk20, zk21, zk24, zk25, zk30, zk32, zk36, zk40, zk45, zk50, zk64, zk97, zk99, zk100, zk102, zk122, zk128, zk255, zk800, zk801, zk900, zk999, zk1000, zk1997, zk9999, zk10000, zk100000, zk99999, zk9999999, zk999999999, zk2147483647, zlc0, zlc1, zlc2, zlc3, zlc4, zlc23, zlc99, zlc100, zlc9999999, zlc999999999999, zlc1073741824, zi_neg, zi_add, zi_sub, zi_mul, zl_neg, zl_add, zl_sub, zl_mul, zi_toInt, zi_nat, zi_le, zi_lt, zi_eq, zl_le, zl_lt, zl_eq, zl_toInt, zl_of32, zi_of64, zi_div, zl_div, zmodI, ↓reduceIte, zTle, zFle, zTlt, zFlt, zTeq, zFeq, if_true, if_false, and_self, and_true, true_and, and_false, false_and, or_self, or_true, true_or, or_false, false_or, not_true_eq_false, not_false_eq_true, zcastA, zcastL, znatC, zab, Int.reduceAdd, Int.reduceSub, Int.reduceMul, Int.reduceNeg, Int.reduceToNat, Nat.reduceAdd]
  have K := zloopV (f := fun f v => zE zc_X3_nextInRow (zF zT0 (d + 1)) 3 [.ref 51, .int (zi (s.1 : Int)), .int (zi s.2.1), .int (zi s.2.2), .int (zi (f : Int)), v] [] (zm len μ ν)) (n := pkF gp s) (fun f v hf => by
    have pf := l4 f (by omega) hf
    show ∃ v', zE _ _ _ _ _ _ = zE _ _ _ _ _ _
    cases q : s.1.testBit f with
    | false =>
      refine ⟨v, ?_⟩
      rw [B_X3_nextInRow_3]
      simp (disch := omega) only [hc, zb_bit, q, Bool.false_eq_true, B_X3_nextInRow_61, zbi_some, zbl_some, zbv_some, zbi_none, zbl_none, zbv_none, zbi_ite, zbl_ite, zbv_ite, zbZ, zbO, zc_lt, zc_le, zc_ge, zc_gt, zc_eq, zk0, zk1, zk2, zk3, zk4, zk5, zk6, zk7, zk8, zk9, zk10, zk11, zk12, zk14, zk15, zk16, zk17, zk19, zk20, zk21, zk24, zk25, zk30, zk32, zk36, zk40, zk45, zk50, zk64, zk97, zk99, zk100, zk102, zk122, zk128, zk255, zk800, zk801, zk900, zk999, zk1000, zk1997, zk9999, zk10000, zk100000, zk99999, zk9999999, zk999999999, zk2147483647, zlc0, zlc1, zlc2, zlc3, zlc4, zlc23, zlc99, zlc100, zlc9999999, zlc999999999999, zlc1073741824, zi_neg, zi_add, zi_sub, zi_mul, zl_neg, zl_add, zl_sub, zl_mul, zi_toInt, zi_nat, zi_le, zi_lt, zi_eq, zl_le, zl_lt, zl_eq, zl_toInt, zl_of32, zi_of64, zi_div, zl_div, zmodI, ↓reduceIte, zTle, zFle, zTlt, zFlt, zTeq, zFeq, if_true, if_false, and_self, and_true, true_and, and_false, false_and, or_self, or_true, true_or, or_false, false_or, not_true_eq_false, not_false_eq_true, zcastA, zcastL, znatC, zab, Int.reduceAdd, Int.reduceSub, Int.reduceMul, Int.reduceNeg, Int.reduceToNat, Nat.reduceAdd]
    | true =>
      have ne : ¬ (glF gp s.2.2 f + (rG gp s.1 f).1 = s.2.1) := fun z => by
        unfold pkP at pf
        rw [q, z] at pf
        simp at pf
      have ix : ((s.1 : Int) * 8 + (f : Int)).toNat = 8 * s.1 + f := by omega
      have h5 := (hq s.1 f (by omega) hs q).1
      have gl : 0 ≤ glF gp s.2.2 f ∧ glF gp s.2.2 f ≤ 105 := by
        unfold glF
        split
        · omega
        · exact gb _ _
      have b1 := b f
      refine ⟨.int (zi (glF gp s.2.2 f)), ?_⟩
      rw [at37 f v (by omega) q, B_X3_nextInRow_37]
      simp (disch := omega) only [ix, h5, ne, B_X3_nextInRow_61, zbi_some, zbl_some, zbv_some, zbi_none, zbl_none, zbv_none, zbi_ite, zbl_ite, zbv_ite, zbZ, zbO, zc_lt, zc_le, zc_ge, zc_gt, zc_eq, zk0, zk1, zk2, zk3, zk4, zk5, zk6, zk7, zk8, zk9, zk10, zk11, zk12, zk14, zk15, zk16, zk17, zk19, zk20, zk21, zk24, zk25, zk30, zk32, zk36, zk40, zk45, zk50, zk64, zk97, zk99, zk100, zk102, zk122, zk128, zk255, zk800, zk801, zk900, zk999, zk1000, zk1997, zk9999, zk10000, zk100000, zk99999, zk9999999, zk999999999, zk2147483647, zlc0, zlc1, zlc2, zlc3, zlc4, zlc23, zlc99, zlc100, zlc9999999, zlc999999999999, zlc1073741824, zi_neg, zi_add, zi_sub, zi_mul, zl_neg, zl_add, zl_sub, zl_mul, zi_toInt, zi_nat, zi_le, zi_lt, zi_eq, zl_le, zl_lt, zl_eq, zl_toInt, zl_of32, zi_of64, zi_div, zl_div, zmodI, ↓reduceIte, zTle, zFle, zTlt, zFlt, zTeq, zFeq, if_true, if_false, and_self, and_true, true_and, and_false, false_and, or_self, or_true, true_or, or_false, false_or, not_true_eq_false, not_false_eq_true, zcastA, zcastL, znatC, zab, Int.reduceAdd, Int.reduceSub, Int.reduceMul, Int.reduceNeg, Int.reduceToNat, Nat.reduceAdd])
  obtain ⟨v', K1⟩ := K zU
  have K0 : zE zc_X3_nextInRow (zF zT0 (d + 1)) 3 [.ref 51, .int (zi (s.1 : Int)), .int (zi s.2.1), .int (zi s.2.2), .int (zi 0), zU] [] (zm len μ ν) = zE zc_X3_nextInRow (zF zT0 (d + 1)) 3 [.ref 51, .int (zi (s.1 : Int)), .int (zi s.2.1), .int (zi s.2.2), .int (zi (pkF gp s : Int)), v'] [] (zm len μ ν) := K1
  rw [B_X3_nextInRow]
  refine Eq.trans K0 ?_
  have ix : ((s.1 : Int) * 8 + (pkF gp s : Int)).toNat = 8 * s.1 + pkF gp s := by omega
  have h5 := (hq s.1 (pkF gp s) (by omega) hs m2).1
  have gl : 0 ≤ glF gp s.2.2 (pkF gp s) ∧ glF gp s.2.2 (pkF gp s) ≤ 105 := by
    unfold glF
    split
    · omega
    · exact gb _ _
  have b1 := b (pkF gp s)
  rw [at37 (pkF gp s) v' m1 m2, B_X3_nextInRow_37]
  simp (disch := omega) only [ix, h5, m3, zbi_some, zbl_some, zbv_some, zbi_none, zbl_none, zbv_none, zbi_ite, zbl_ite, zbv_ite, zbZ, zbO, zc_lt, zc_le, zc_ge, zc_gt, zc_eq, zk0, zk1, zk2, zk3, zk4, zk5, zk6, zk7, zk8, zk9, zk10, zk11, zk12, zk14, zk15, zk16, zk17, zk19, zk20, zk21, zk24, zk25, zk30, zk32, zk36, zk40, zk45, zk50, zk64, zk97, zk99, zk100, zk102, zk122, zk128, zk255, zk800, zk801, zk900, zk999, zk1000, zk1997, zk9999, zk10000, zk100000, zk99999, zk9999999, zk999999999, zk2147483647, zlc0, zlc1, zlc2, zlc3, zlc4, zlc23, zlc99, zlc100, zlc9999999, zlc999999999999, zlc1073741824, zi_neg, zi_add, zi_sub, zi_mul, zl_neg, zl_add, zl_sub, zl_mul, zi_toInt, zi_nat, zi_le, zi_lt, zi_eq, zl_le, zl_lt, zl_eq, zl_toInt, zl_of32, zi_of64, zi_div, zl_div, zmodI, ↓reduceIte, zTle, zFle, zTlt, zFlt, zTeq, zFeq, if_true, if_false, and_self, and_true, true_and, and_false, false_and, or_self, or_true, true_or, or_false, false_or, not_true_eq_false, not_false_eq_true, zcastA, zcastL, znatC, zab, Int.reduceAdd, Int.reduceSub, Int.reduceMul, Int.reduceNeg, Int.reduceToNat, Nat.reduceAdd]
theorem F_place (d len n : Nat) (ν : zNu) (L R : Nat → Int) (μ : zMu) (set pl : Nat) (hR : Rc n L R μ) (hset : set < 2 ^ n) (h0 : set ≠ 0) (hq : Rq (gpF (μ 52) L R) set (set + 1) μ) (hpl : pl < pcn set) : zF zT0 (d + 3) 50 [.ref 51, .int (zi (set : Int)), .int (zi (rR (gpF (μ 52) L R) set).1), .int (zi (pl : Int))] (zm len μ ν) = some (.int (zi (rst (gpF (μ 52) L R) set (rR (gpF (μ 52) L R) set).1 (pl + 1)).2.2), zm len μ ν) := by
  have hp : 2 ^ n ≤ 2 ^ 8 := Nat.pow_le_pow_right (by decide) hR.1
  have n8 := hR.1
  obtain ⟨gp, hgp⟩ : ∃ gp, gp = gpF (μ 52) L R := ⟨_, rfl⟩
  have gb : ∀ f g, 0 ≤ gp f g ∧ gp f g ≤ 105 := fun f g => by rw [hgp]; exact gpF_b (fun i => (hR.2.2.1 i).2) (fun i => (hR.2.2.2 i).2) f g
  have p8 := pcn_8 set (by omega)
  have NX := fun s => F_next d len n ν L R μ set s hR hset
  rw [← hgp] at hq NX ⊢
  have ok := rst_ok gb (set := set) (by omega) h0
  obtain ⟨x, hx⟩ : ∃ x, x = (rR gp set).1 := ⟨_, rfl⟩
  rw [← hx] at ok ⊢
  have K := zloop (f := fun i => zE zc_X3_placeInRow (zF zT0 (d + 2)) 12 [.ref 51, .int (zi (set : Int)), .int (zi x), .int (zi (pl : Int)), .int (zi ((rst gp set x i).1 : Int)), .int (zi (rst gp set x i).2.1), .int (zi (rst gp set x i).2.2), .int (zi (i : Int))] [] (zm len μ ν)) (n := pl + 1) (fun i hi => by
    obtain ⟨a1, a2, a3, a4, a5⟩ := ok i (by omega)
    have e1 : rst gp set x (i + 1) = (sdf (rst gp set x i).1 (2 ^ pkF gp (rst gp set x i)), (rG gp (rst gp set x i).1 (pkF gp (rst gp set x i))).1, (pkF gp (rst gp set x i) : Int)) := rfl
    rw [e1]
    obtain ⟨s, hs⟩ : ∃ s, s = rst gp set x i := ⟨_, rfl⟩
    rw [← hs] at a1 a2 a3 a4 a5 ⊢
    have sn : s.1 ≠ 0 := fun z => by
      have := (pcn_0 s.1 (lt_of_sub (k := 8) a1 (by omega))).mpr z
      omega
    have hj := a3 sn
    have N := NX s a1 hq hj a4 (by omega)
    obtain ⟨j, j1, j2⟩ := hj
    obtain ⟨_, l2, l3, l4⟩ := lst_ok (P := pkP gp s) (n := 8) (k := 0) (j := j) (by omega) (by omega) j2
    have hF : lst (pkP gp s) 8 0 = pkF gp s := rfl
    rw [hF] at l2 l3
    have sle : s.1 ≤ set := Nat.le_of_testBit a1
    obtain ⟨m1, m2, m3⟩ := pkP_lt (lt_of_sub a1 hset) l3
    have ix : ((s.1 : Int) * 8 + (pkF gp s : Int)).toNat = 8 * s.1 + pkF gp s := by omega
    have h5 := (hq s.1 (pkF gp s) (by omega) a1 m2).1
    show zE _ _ _ _ _ _ = zE _ _ _ _ _ _
    rw [B_X3_placeInRow_12]
    simp (disch := omega) only [N, B_X3_placeInRow_28, ix, h5, zb_shl, zb_not, zbi_some, zbl_some, zbv_some, zbi_none, zbl_none, zbv_none, zbi_ite, zbl_ite, zbv_ite, zbZ, zbO, zc_lt, zc_le, zc_ge, zc_gt, zc_eq, zk0, zk1, zk2, zk3, zk4, zk5, zk6, zk7, zk8, zk9, zk10, zk11, zk12, zk14, zk15, zk16, zk17, zk19, zk20, zk21, zk24, zk25, zk30, zk32, zk36, zk40, zk45, zk50, zk64, zk97, zk99, zk100, zk102, zk122, zk128, zk255, zk800, zk801, zk900, zk999, zk1000, zk1997, zk9999, zk10000, zk100000, zk99999, zk9999999, zk999999999, zk2147483647, zlc0, zlc1, zlc2, zlc3, zlc4, zlc23, zlc99, zlc100, zlc9999999, zlc999999999999, zlc1073741824, zi_neg, zi_add, zi_sub, zi_mul, zl_neg, zl_add, zl_sub, zl_mul, zi_toInt, zi_nat, zi_le, zi_lt, zi_eq, zl_le, zl_lt, zl_eq, zl_toInt, zl_of32, zi_of64, zi_div, zl_div, zmodI, ↓reduceIte, zTle, zFle, zTlt, zFlt, zTeq, zFeq, if_true, if_false, and_self, and_true, true_and, and_false, false_and, or_self, or_true, true_or, or_false, false_or, not_true_eq_false, not_false_eq_true, zcastA, zcastL, znatC, zab, Int.reduceAdd, Int.reduceSub, Int.reduceMul, Int.reduceNeg, Int.reduceToNat, Nat.reduceAdd])
  have K0 : zE zc_X3_placeInRow (zF zT0 (d + 2)) 12 [.ref 51, .int (zi (set : Int)), .int (zi x), .int (zi (pl : Int)), .int (zi (set : Int)), .int (zi x), .int (zi (-1)), .int (zi 0)] [] (zm len μ ν) = zE zc_X3_placeInRow (zF zT0 (d + 2)) 12 [.ref 51, .int (zi (set : Int)), .int (zi x), .int (zi (pl : Int)), .int (zi ((rst gp set x (pl + 1)).1 : Int)), .int (zi (rst gp set x (pl + 1)).2.1), .int (zi (rst gp set x (pl + 1)).2.2), .int (zi ((pl + 1 : Nat) : Int))] [] (zm len μ ν) := K
  rw [B_X3_placeInRow]
  refine Eq.trans K0 ?_
  rw [B_X3_placeInRow_12]
  simp (disch := omega) only [zbi_some, zbl_some, zbv_some, zbi_none, zbl_none, zbv_none, zbi_ite, zbl_ite, zbv_ite, zbZ, zbO, zc_lt, zc_le, zc_ge, zc_gt, zc_eq, zk0, zk1, zk2, zk3, zk4, zk5, zk6, zk7, zk8, zk9, zk10, zk11, zk12, zk14, zk15, zk16, zk17, zk19, zk20, zk21, zk24, zk25, zk30, zk32, zk36, zk40, zk45, zk50, zk64, zk97, zk99, zk100, zk102, zk122, zk128, zk255, zk800, zk801, zk900, zk999, zk1000, zk1997, zk9999, zk10000, zk100000, zk99999, zk9999999, zk999999999, zk2147483647, zlc0, zlc1, zlc2, zlc3, zlc4, zlc23, zlc99, zlc100, zlc9999999, zlc999999999999, zlc1073741824, zi_neg, zi_add, zi_sub, zi_mul, zl_neg, zl_add, zl_sub, zl_mul, zi_toInt, zi_nat, zi_le, zi_lt, zi_eq, zl_le, zl_lt, zl_eq, zl_toInt, zl_of32, zi_of64, zi_div, zl_div, zmodI, ↓reduceIte, zTle, zFle, zTlt, zFlt, zTeq, zFeq, if_true, if_false, and_self, and_true, true_and, and_false, false_and, or_self, or_true, true_or, or_false, false_or, not_true_eq_false, not_false_eq_true, zcastA, zcastL, znatC, zab, Int.reduceAdd, Int.reduceSub, Int.reduceMul, Int.reduceNeg, Int.reduceToNat, Nat.reduceAdd]

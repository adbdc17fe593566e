/-! ORDERS: the model's counts, the first order by both sides -/
def oW (U : Nat → Nat) (bh : Int) (fi : Nat) : Nat → Nat := fun p => if (p : Int) = bh then U p ||| 2 ^ fi else U p
theorem oW_no (U : Nat → Nat) (fi : Nat) : oW U (-1) fi = U := by
  funext p
  exact if_neg (by omega)
theorem zor0 (a : Int) : zi a ||| zi 0 = zi a := Int32.or_zero
theorem mo_in (d len n : Nat) (ν : zNu) (U : Nat → Nat) (bh : Int) (fi : Nat) (μ : zMu) (set : Nat) (hR : Rs n U (μ 126)) (hc : μ 92 52 = zi (n : Int)) (hbh : -1 ≤ bh ∧ bh < 10) (hfi : fi < 10) (hs : set < 2 ^ n) (x3 : Int32) (c0 : Int) (v7 : Value) (hq : ∀ s, set < s → s < 2 ^ n → μ 127 s = zi (oB (oW U bh fi) n s)) : ∃ v7' : Value, zE zc_X12_orders (zF zT0 d) 33 [.ref 92, .int (zi bh), .int (zi (fi : Int)), .int x3, .int (zi (set : Int)), .int (zi c0), .int (zi 0), v7] [] (zm len μ ν) = zE zc_X12_orders (zF zT0 d) 12 [.ref 92, .int (zi bh), .int (zi (fi : Int)), .int x3, .int (zi ((set : Int) - 1)), .int (zi (c0 + sm n (fun p => if oE (oW U bh fi) set p = true then oB (oW U bh fi) n (set ||| 2 ^ p) else 0))), .int (zi (n : Int)), v7'] [] (zm len (zrw μ 127 (upd (μ 127) set (zi (c0 + sm n (fun p => if oE (oW U bh fi) set p = true then oB (oW U bh fi) n (set ||| 2 ^ p) else 0))))) ν) := by
  have hp : 2 ^ n ≤ 2 ^ 10 := Nat.pow_le_pow_right (by decide) hR.1
  have n10 := hR.1
  obtain ⟨F, hF⟩ : ∃ F : Nat → Int, F = fun p => if oE (oW U bh fi) set p = true then oB (oW U bh fi) n (set ||| 2 ^ p) else 0 := ⟨_, rfl⟩
  rw [← hF]
  have K := zloopV (f := fun p v => zE zc_X12_orders (zF zT0 d) 33 [.ref 92, .int (zi bh), .int (zi (fi : Int)), .int x3, .int (zi (set : Int)), .int (zi (c0 + sm p F)), .int (zi (p : Int)), v] [] (zm len μ ν)) (n := n) (fun p v hpn => by
    have u := hR.2 p
    have u2 := u.2.1
    have w2 : oW U bh fi p < 2 ^ 10 := by
      unfold oW
      split
      · exact or_lt (n := 10) (by omega) hfi
      · omega
    have H : zE zc_X12_orders (zF zT0 d) 33 [.ref 92, .int (zi bh), .int (zi (fi : Int)), .int x3, .int (zi (set : Int)), .int (zi (c0 + sm p F)), .int (zi (p : Int)), v] [] (zm len μ ν) = (if ((zi (set : Int) >>> (zi (p : Int) &&& 31)) &&& zi 1) = zi 0 then (if zi (oW U bh fi p : Int) &&& (zi (set : Int) ^^^ zi (-1)) = zi 0 then (if 0 ≤ (zi (set : Int) ||| (zi 1 <<< (zi (p : Int) &&& 31))).toInt ∧ (zi (set : Int) ||| (zi 1 <<< (zi (p : Int) &&& 31))).toInt < ((1024 : Nat) : Int) then zE zc_X12_orders (zF zT0 d) 102 [.ref 92, .int (zi bh), .int (zi (fi : Int)), .int x3, .int (zi (set : Int)), .int (zi (c0 + sm p F) + μ 127 (zi (set : Int) ||| (zi 1 <<< (zi (p : Int) &&& 31))).toNatClampNeg), .int (zi (p : Int)), .int (zi (oW U bh fi p : Int))] [] (zm len μ ν) else none) else zE zc_X12_orders (zF zT0 d) 102 [.ref 92, .int (zi bh), .int (zi (fi : Int)), .int x3, .int (zi (set : Int)), .int (zi (c0 + sm p F)), .int (zi (p : Int)), .int (zi (oW U bh fi p : Int))] [] (zm len μ ν)) else zE zc_X12_orders (zF zT0 d) 102 [.ref 92, .int (zi bh), .int (zi (fi : Int)), .int x3, .int (zi (set : Int)), .int (zi (c0 + sm p F)), .int (zi (p : Int)), .int (zi (oW U bh fi p : Int))] [] (zm len μ ν)) := by
      have n1 : ¬ μ 92 52 ≤ zi (p : Int) := by rw [hc, zi_le (by omega)]; omega
      have n2 : 0 ≤ (zi (p : Int)).toInt ∧ (zi (p : Int)).toInt < ((10 : Nat) : Int) := by rw [zi_toInt (by omega)]; omega
      have n3 : μ 126 (zi (p : Int)).toNatClampNeg = zi (U p : Int) := by rw [zi_nat (by omega)]; exact u.1
      rw [B_X12_orders_33, if_neg n1, if_pos n2, n3]
      by_cases q : (p : Int) = bh
      · have e : zi (U p : Int) ||| (zi 1 <<< (zi (fi : Int) &&& 31)) = zi (oW U bh fi p : Int) := by
          rw [zb_shl (by omega), zb_orN]
          unfold oW
          rw [if_pos q]
        rw [if_pos (by rw [q])]
        rw [B_X12_orders_62]
        show (if ((zi (set : Int) >>> (zi (p : Int) &&& 31)) &&& zi 1) = zi 0 then (if (zi (U p : Int) ||| (zi 1 <<< (zi (fi : Int) &&& 31))) &&& (zi (set : Int) ^^^ zi (-1)) = zi 0 then _ else _) else _) = _
        simp only [show (1 : Int32) = zi 1 from rfl, e]
        try rfl
      · have e : zi (U p : Int) ||| zi 0 = zi (oW U bh fi p : Int) := by
          rw [zor0]
          unfold oW
          rw [if_neg q]
        rw [if_neg (by rw [zi_eq (by omega)]; exact q), B_X12_orders_62]
        show (if ((zi (set : Int) >>> (zi (p : Int) &&& 31)) &&& zi 1) = zi 0 then (if (zi (U p : Int) ||| zi 0) &&& (zi (set : Int) ^^^ zi (-1)) = zi 0 then _ else _) else _) = _
        simp only [show (0 : Int32) = zi 0 from rfl, e]
        try rfl
    refine ⟨.int (zi (oW U bh fi p : Int)), ?_⟩
    show zE _ _ _ _ _ _ = zE _ _ _ _ _ _
    rw [H, sm_S]
    cases q : set.testBit p with
    | true =>
      have f0 : F p = 0 := by rw [hF]; exact if_neg (fun z => by have := (oE_t.mp z).1; rw [q] at this; cases this)
      rw [f0, Int.add_zero]
      simp (disch := omega) only [zb_bit, q, B_X12_orders_102, zbi_some, zbl_some, zbv_some, zbi_none, zbl_none, zbv_none, zbi_ite, zbl_ite, zbv_ite, zbZ, zbO, zc_lt, zc_le, zc_ge, zc_gt, zc_eq, zk0, zk1, zk2, zk3, zk4, zk5, zk6, zk7, zk8, zk9, zk10, zk11, zk12, zk14, zk15, zk16, zk17, zk19, zk20, zk21, zk24, zk25, zk30, zk32, zk36, zk40, zk45, zk50, zk64, zk97, zk99, zk100, zk102, zk122, zk128, zk255, zk800, zk801, zk900, zk999, zk1000, zk1997, zk9999, zk10000, zk100000, zk99999, zk9999999, zk999999999, zk2147483647, zlc0, zlc1, zlc2, zlc3, zlc4, zlc23, zlc99, zlc100, zlc9999999, zlc999999999999, zlc1073741824, zi_neg, zi_add, zi_sub, zi_mul, zl_neg, zl_add, zl_sub, zl_mul, zi_toInt, zi_nat, zi_le, zi_lt, zi_eq, zl_le, zl_lt, zl_eq, zl_toInt, zl_of32, zi_of64, zi_div, zl_div, zmodI, ↓reduceIte, zTle, zFle, zTlt, zFlt, zTeq, zFeq, if_true, if_false, and_self, and_true, true_and, and_false, false_and, or_self, or_true, true_or, or_false, false_or, not_true_eq_false, not_false_eq_true, zcastA, zcastL, znatC, zab, Int.reduceAdd, Int.reduceSub, Int.reduceMul, Int.reduceNeg, Int.reduceToNat, Nat.reduceAdd]
    | false =>
      by_cases z : sdf (oW U bh fi p) set = 0
      · have f0 : F p = oB (oW U bh fi) n (set ||| 2 ^ p) := by rw [hF]; exact if_pos (oE_t.mpr ⟨q, sdf_0.mp z⟩)
        have l1 := lt_or q
        have l2 := or_lt hs hpn
        have h7 := hq (set ||| 2 ^ p) l1 l2
        rw [f0]
        simp (disch := omega) only [zb_bit, q, Bool.false_eq_true, zb_not, z, zb_shl, zb_orN, h7, B_X12_orders_102, Int.add_assoc, zbi_some, zbl_some, zbv_some, zbi_none, zbl_none, zbv_none, zbi_ite, zbl_ite, zbv_ite, zbZ, zbO, zc_lt, zc_le, zc_ge, zc_gt, zc_eq, zk0, zk1, zk2, zk3, zk4, zk5, zk6, zk7, zk8, zk9, zk10, zk11, zk12, zk14, zk15, zk16, zk17, zk19, zk20, zk21, zk24, zk25, zk30, zk32, zk36, zk40, zk45, zk50, zk64, zk97, zk99, zk100, zk102, zk122, zk128, zk255, zk800, zk801, zk900, zk999, zk1000, zk1997, zk9999, zk10000, zk100000, zk99999, zk9999999, zk999999999, zk2147483647, zlc0, zlc1, zlc2, zlc3, zlc4, zlc23, zlc99, zlc100, zlc9999999, zlc999999999999, zlc1073741824, zi_neg, zi_add, zi_sub, zi_mul, zl_neg, zl_add, zl_sub, zl_mul, zi_toInt, zi_nat, zi_le, zi_lt, zi_eq, zl_le, zl_lt, zl_eq, zl_toInt, zl_of32, zi_of64, zi_div, zl_div, zmodI, ↓reduceIte, zTle, zFle, zTlt, zFlt, zTeq, zFeq, if_true, if_false, and_self, and_true, true_and, and_false, false_and, or_self, or_true, true_or, or_false, false_or, not_true_eq_false, not_false_eq_true, zcastA, zcastL, znatC, zab, Int.reduceAdd, Int.reduceSub, Int.reduceMul, Int.reduceNeg, Int.reduceToNat, Nat.reduceAdd]
      · have f0 : F p = 0 := by rw [hF]; exact if_neg (fun w => z (sdf_0.mpr (oE_t.mp w).2))
        have le := sdf_le (oW U bh fi p) set
        have z' : ¬ ((sdf (oW U bh fi p) set : Nat) : Int) = 0 := by omega
        rw [f0, Int.add_zero]
        simp (disch := omega) only [zb_bit, q, Bool.false_eq_true, zb_not, z', B_X12_orders_102, zbi_some, zbl_some, zbv_some, zbi_none, zbl_none, zbv_none, zbi_ite, zbl_ite, zbv_ite, zbZ, zbO, zc_lt, zc_le, zc_ge, zc_gt, zc_eq, zk0, zk1, zk2, zk3, zk4, zk5, zk6, zk7, zk8, zk9, zk10, zk11, zk12, zk14, zk15, zk16, zk17, zk19, zk20, zk21, zk24, zk25, zk30, zk32, zk36, zk40, zk45, zk50, zk64, zk97, zk99, zk100, zk102, zk122, zk128, zk255, zk800, zk801, zk900, zk999, zk1000, zk1997, zk9999, zk10000, zk100000, zk99999, zk9999999, zk999999999, zk2147483647, zlc0, zlc1, zlc2, zlc3, zlc4, zlc23, zlc99, zlc100, zlc9999999, zlc999999999999, zlc1073741824, zi_neg, zi_add, zi_sub, zi_mul, zl_neg, zl_add, zl_sub, zl_mul, zi_toInt, zi_nat, zi_le, zi_lt, zi_eq, zl_le, zl_lt, zl_eq, zl_toInt, zl_of32, zi_of64, zi_div, zl_div, zmodI, ↓reduceIte, zTle, zFle, zTlt, zFlt, zTeq, zFeq, if_true, if_false, and_self, and_true, true_and, and_false, false_and, or_self, or_true, true_or, or_false, false_or, not_true_eq_false, not_false_eq_true, zcastA, zcastL, znatC, zab, Int.reduceAdd, Int.reduceSub, Int.reduceMul, Int.reduceNeg, Int.reduceToNat, Nat.reduceAdd])
  obtain ⟨v', K1⟩ := K v7
  have K0 : zE zc_X12_orders (zF zT0 d) 33 [.ref 92, .int (zi bh), .int (zi (fi : Int)), .int x3, .int (zi (set : Int)), .int (zi (c0 + 0)), .int (zi 0), v7] [] (zm len μ ν) = zE zc_X12_orders (zF zT0 d) 33 [.ref 92, .int (zi bh), .int (zi (fi : Int)), .int x3, .int (zi (set : Int)), .int (zi (c0 + sm n F)), .int (zi (n : Int)), v'] [] (zm len μ ν) := K1
  rw [Int.add_zero] at K0
  have em : (set : Int) + -1 = (set : Int) - 1 := by omega
  refine ⟨v', K0.trans ?_⟩
  rw [B_X12_orders_33]
  simp (disch := omega) only [hc, em, zup_rw, zbi_some, zbl_some, zbv_some, zbi_none, zbl_none, zbv_none, zbi_ite, zbl_ite, zbv_ite, zbZ, zbO, zc_lt, zc_le, zc_ge, zc_gt, zc_eq, zk0, zk1, zk2, zk3, zk4, zk5, zk6, zk7, zk8, zk9, zk10, zk11, zk12, zk14, zk15, zk16, zk17, zk19, zk20, zk21, zk24, zk25, zk30, zk32, zk36, zk40, zk45, zk50, zk64, zk97, zk99, zk100, zk102, zk122, zk128, zk255, zk800, zk801, zk900, zk999, zk1000, zk1997, zk9999, zk10000, zk100000, zk99999, zk9999999, zk999999999, zk2147483647, zlc0, zlc1, zlc2, zlc3, zlc4, zlc23, zlc99, zlc100, zlc9999999, zlc999999999999, zlc1073741824, zi_neg, zi_add, zi_sub, zi_mul, zl_neg, zl_add, zl_sub, zl_mul, zi_toInt, zi_nat, zi_le, zi_lt, zi_eq, zl_le, zl_lt, zl_eq, zl_toInt, zl_of32, zi_of64, zi_div, zl_div, zmodI, ↓reduceIte, zTle, zFle, zTlt, zFlt, zTeq, zFeq, if_true, if_false, and_self, and_true, true_and, and_false, false_and, or_self, or_true, true_or, or_false, false_or, not_true_eq_false, not_false_eq_true, zcastA, zcastL, znatC, zab, Int.reduceAdd, Int.reduceSub, Int.reduceMul, Int.reduceNeg, Int.reduceToNat, Nat.reduceAdd]
theorem mo_out (d len n : Nat) (ν : zNu) (U : Nat → Nat) (bh : Int) (fi : Nat) (μ : zMu) (hR : Rs n U (μ 126)) (hc : μ 92 52 = zi (n : Int)) (hbh : -1 ≤ bh ∧ bh < 10) (hfi : fi < 10) : ∀ (m : Nat) (μ1 : zMu) (v5 v6 v7 : Value), m ≤ 2 ^ n → (∀ r, r ≠ 127 → μ1 r = μ r) → (∀ s, m ≤ s → s < 2 ^ n → μ1 127 s = zi (oB (oW U bh fi) n s)) → ∃ μ' : zMu, zE zc_X12_orders (zF zT0 d) 12 [.ref 92, .int (zi bh), .int (zi (fi : Int)), .int (zi (((2 ^ n : Nat) : Int) - 1)), .int (zi ((m : Int) - 1)), v5, v6, v7] [] (zm len μ1 ν) = some (.int (zi (oB (oW U bh fi) n 0)), zm len μ' ν) ∧ (∀ r, r ≠ 127 → μ' r = μ r) ∧ ∀ s, s < 2 ^ n → μ' 127 s = zi (oB (oW U bh fi) n s) := by
  have hp : 2 ^ n ≤ 2 ^ 10 := Nat.pow_le_pow_right (by decide) hR.1
  have hp0 := Nat.two_pow_pos n
  obtain ⟨N, hN⟩ : ∃ N, N = 2 ^ n := ⟨_, rfl⟩
  intro m
  induction m with
  | zero =>
    intro μ1 v5 v6 v7 _ e hq
    have h0 := hq 0 (Nat.le_refl _) hp0
    refine ⟨μ1, ?_, e, fun s hs => hq s (Nat.zero_le _) hs⟩
    rw [B_X12_orders_12]
    simp (disch := omega) only [h0, zbi_some, zbl_some, zbv_some, zbi_none, zbl_none, zbv_none, zbi_ite, zbl_ite, zbv_ite, zbZ, zbO, zc_lt, zc_le, zc_ge, zc_gt, zc_eq, zk0, zk1, zk2, zk3, zk4, zk5, zk6, zk7, zk8, zk9, zk10, zk11, zk12, zk14, zk15, zk16, zk17, zk19, zk20, zk21, zk24, zk25, zk30, zk32, zk36, zk40, zk45, zk50, zk64, zk97, zk99, zk100, zk102, zk122, zk128, zk255, zk800, zk801, zk900, zk999, zk1000, zk1997, zk9999, zk10000, zk100000, zk99999, zk9999999, zk999999999, zk2147483647, zlc0, zlc1, zlc2, zlc3, zlc4, zlc23, zlc99, zlc100, zlc9999999, zlc999999999999, zlc1073741824, zi_neg, zi_add, zi_sub, zi_mul, zl_neg, zl_add, zl_sub, zl_mul, zi_toInt, zi_nat, zi_le, zi_lt, zi_eq, zl_le, zl_lt, zl_eq, zl_toInt, zl_of32, zi_of64, zi_div, zl_div, zmodI, ↓reduceIte, zTle, zFle, zTlt, zFlt, zTeq, zFeq, if_true, if_false, and_self, and_true, true_and, and_false, false_and, or_self, or_true, true_or, or_false, false_or, not_true_eq_false, not_false_eq_true, zcastA, zcastL, znatC, zab, Int.reduceAdd, Int.reduceSub, Int.reduceMul, Int.reduceNeg, Int.reduceToNat, Nat.reduceAdd]
  | succ m ih =>
    intro μ1 v5 v6 v7 hm e hq
    have e126 : μ1 126 = μ 126 := e 126 (by decide)
    have e92 : μ1 92 = μ 92 := e 92 (by decide)
    have em : ((m + 1 : Nat) : Int) - 1 = (m : Int) := by omega
    obtain ⟨v', K⟩ := mo_in d len n ν U bh fi μ1 m (by rw [e126]; exact hR) (by rw [e92]; exact hc) hbh hfi (by omega) (zi (((2 ^ n : Nat) : Int) - 1)) (if m = 2 ^ n - 1 then 1 else 0) v7 (fun s h1 h2 => hq s (by omega) h2)
    rw [← oB_eq (oW U bh fi) (show m < 2 ^ n by omega)] at K
    obtain ⟨μ', a, b, c⟩ := ih (zrw μ1 127 (upd (μ1 127) m (zi (oB (oW U bh fi) n m)))) (.int (zi (oB (oW U bh fi) n m))) (.int (zi (n : Int))) v' (by omega) (fun r h => by rw [zrw_n _ _ h]; exact e r h) (fun s h1 h2 => by
      rw [zrw_s]
      by_cases z : s = m
      · rw [z, upd_eq]
      · rw [upd_ne _ _ z]
        exact hq s (by omega) h2)
    refine ⟨μ', ?_, b, c⟩
    rw [← a, ← K, em, B_X12_orders_12, ← hN]
    by_cases q : m = N - 1
    · have q1 : (m : Int) = (N : Int) - 1 := by omega
      rw [if_pos q]
      simp (disch := omega) only [← q1, B_X12_orders_28, zbi_some, zbl_some, zbv_some, zbi_none, zbl_none, zbv_none, zbi_ite, zbl_ite, zbv_ite, zbZ, zbO, zc_lt, zc_le, zc_ge, zc_gt, zc_eq, zk0, zk1, zk2, zk3, zk4, zk5, zk6, zk7, zk8, zk9, zk10, zk11, zk12, zk14, zk15, zk16, zk17, zk19, zk20, zk21, zk24, zk25, zk30, zk32, zk36, zk40, zk45, zk50, zk64, zk97, zk99, zk100, zk102, zk122, zk128, zk255, zk800, zk801, zk900, zk999, zk1000, zk1997, zk9999, zk10000, zk100000, zk99999, zk9999999, zk999999999, zk2147483647, zlc0, zlc1, zlc2, zlc3, zlc4, zlc23, zlc99, zlc100, zlc9999999, zlc999999999999, zlc1073741824, zi_neg, zi_add, zi_sub, zi_mul, zl_neg, zl_add, zl_sub, zl_mul, zi_toInt, zi_nat, zi_le, zi_lt, zi_eq, zl_le, zl_lt, zl_eq, zl_toInt, zl_of32, zi_of64, zi_div, zl_div, zmodI, ↓reduceIte, zTle, zFle, zTlt, zFlt, zTeq, zFeq, if_true, if_false, and_self, and_true, true_and, and_false, false_and, or_self, or_true, true_or, or_false, false_or, not_true_eq_false, not_false_eq_true, zcastA, zcastL, znatC, zab, Int.reduceAdd, Int.reduceSub, Int.reduceMul, Int.reduceNeg, Int.reduceToNat, Nat.reduceAdd]
    · have q1 : ¬ (m : Int) = (N : Int) - 1 := by omega
      rw [if_neg q]
      simp (disch := omega) only [q1, B_X12_orders_28, zbi_some, zbl_some, zbv_some, zbi_none, zbl_none, zbv_none, zbi_ite, zbl_ite, zbv_ite, zbZ, zbO, zc_lt, zc_le, zc_ge, zc_gt, zc_eq, zk0, zk1, zk2, zk3, zk4, zk5, zk6, zk7, zk8, zk9, zk10, zk11, zk12, zk14, zk15, zk16, zk17, zk19, zk20, zk21, zk24, zk25, zk30, zk32, zk36, zk40, zk45, zk50, zk64, zk97, zk99, zk100, zk102, zk122, zk128, zk255, zk800, zk801, zk900, zk999, zk1000, zk1997, zk9999, zk10000, zk100000, zk99999, zk9999999, zk999999999, zk2147483647, zlc0, zlc1, zlc2, zlc3, zlc4, zlc23, zlc99, zlc100, zlc9999999, zlc999999999999, zlc1073741824, zi_neg, zi_add, zi_sub, zi_mul, zl_neg, zl_add, zl_sub, zl_mul, zi_toInt, zi_nat, zi_le, zi_lt, zi_eq, zl_le, zl_lt, zl_eq, zl_toInt, zl_of32, zi_of64, zi_div, zl_div, zmodI, ↓reduceIte, zTle, zFle, zTlt, zFlt, zTeq, zFeq, if_true, if_false, and_self, and_true, true_and, and_false, false_and, or_self, or_true, true_or, or_false, false_or, not_true_eq_false, not_false_eq_true, zcastA, zcastL, znatC, zab, Int.reduceAdd, Int.reduceSub, Int.reduceMul, Int.reduceNeg, Int.reduceToNat, Nat.reduceAdd]
theorem F_orders (d len n : Nat) (ν : zNu) (U : Nat → Nat) (bh : Int) (fi : Nat) (μ : zMu) (hR : Rs n U (μ 126)) (hc : μ 92 52 = zi (n : Int)) (hbh : -1 ≤ bh ∧ bh < 10) (hfi : fi < 10) : ∃ μ' : zMu, zF zT0 (d + 1) 235 [.ref 92, .int (zi bh), .int (zi (fi : Int))] (zm len μ ν) = some (.int (zi (oB (oW U bh fi) n 0)), zm len μ' ν) ∧ (∀ r, r ≠ 127 → μ' r = μ r) ∧ ∀ s, s < 2 ^ n → μ' 127 s = zi (oB (oW U bh fi) n s) := by
  have n10 := hR.1
  obtain ⟨μ', a, b, c⟩ := mo_out d len n ν U bh fi μ hR hc hbh hfi (2 ^ n) μ zU zU zU (Nat.le_refl _) (fun r _ => rfl) (fun s h1 h2 => by omega)
  refine ⟨μ', ?_, b, c⟩
  rw [B_X12_orders, ← a]
  simp (disch := omega) only [hc, zb_shl, zbi_some, zbl_some, zbv_some, zbi_none, zbl_none, zbv_none, zbi_ite, zbl_ite, zbv_ite, zbZ, zbO, zc_lt, zc_le, zc_ge, zc_gt, zc_eq, zk0, zk1, zk2, zk3, zk4, zk5, zk6, zk7, zk8, zk9, zk10, zk11, zk12, zk14, zk15, zk16, zk17, zk19, zk20, zk21, zk24, zk25, zk30, zk32, zk36, zk40, zk45, zk50, zk64, zk97, zk99, zk100, zk102, zk122, zk128, zk255, zk800, zk801, zk900, zk999, zk1000, zk1997, zk9999, zk10000, zk100000, zk99999, zk9999999, zk999999999, zk2147483647, zlc0, zlc1, zlc2, zlc3, zlc4, zlc23, zlc99, zlc100, zlc9999999, zlc999999999999, zlc1073741824, zi_neg, zi_add, zi_sub, zi_mul, zl_neg, zl_add, zl_sub, zl_mul, zi_toInt, zi_nat, zi_le, zi_lt, zi_eq, zl_le, zl_lt, zl_eq, zl_toInt, zl_of32, zi_of64, zi_div, zl_div, zmodI, ↓reduceIte, zTle, zFle, zTlt, zFlt, zTeq, zFeq, if_true, if_false, and_self, and_true, true_and, and_false, false_and, or_self, or_true, true_or, or_false, false_or, not_true_eq_false, not_false_eq_true, zcastA, zcastL, znatC, zab, Int.reduceAdd, Int.reduceSub, Int.reduceMul, Int.reduceNeg, Int.reduceToNat, Nat.reduceAdd]

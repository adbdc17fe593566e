/-! ROWS: row agrees -/
def bcF (a0 : Int32) : Int32 := ((((((((a0 - (((a0).toUInt32 >>> (((1 : Int32)).toUInt32 &&& Int32.toUInt32 31)).toInt32 &&& (1431655765 : Int32))) &&& (858993459 : Int32)) + ((((a0 - (((a0).toUInt32 >>> (((1 : Int32)).toUInt32 &&& Int32.toUInt32 31)).toInt32 &&& (1431655765 : Int32)))).toUInt32 >>> (((2 : Int32)).toUInt32 &&& Int32.toUInt32 31)).toInt32 &&& (858993459 : Int32))) + (((((a0 - (((a0).toUInt32 >>> (((1 : Int32)).toUInt32 &&& Int32.toUInt32 31)).toInt32 &&& (1431655765 : Int32))) &&& (858993459 : Int32)) + ((((a0 - (((a0).toUInt32 >>> (((1 : Int32)).toUInt32 &&& Int32.toUInt32 31)).toInt32 &&& (1431655765 : Int32)))).toUInt32 >>> (((2 : Int32)).toUInt32 &&& Int32.toUInt32 31)).toInt32 &&& (858993459 : Int32)))).toUInt32 >>> (((4 : Int32)).toUInt32 &&& Int32.toUInt32 31)).toInt32) &&& (252645135 : Int32)) + (((((((a0 - (((a0).toUInt32 >>> (((1 : Int32)).toUInt32 &&& Int32.toUInt32 31)).toInt32 &&& (1431655765 : Int32))) &&& (858993459 : Int32)) + ((((a0 - (((a0).toUInt32 >>> (((1 : Int32)).toUInt32 &&& Int32.toUInt32 31)).toInt32 &&& (1431655765 : Int32)))).toUInt32 >>> (((2 : Int32)).toUInt32 &&& Int32.toUInt32 31)).toInt32 &&& (858993459 : Int32))) + (((((a0 - (((a0).toUInt32 >>> (((1 : Int32)).toUInt32 &&& Int32.toUInt32 31)).toInt32 &&& (1431655765 : Int32))) &&& (858993459 : Int32)) + ((((a0 - (((a0).toUInt32 >>> (((1 : Int32)).toUInt32 &&& Int32.toUInt32 31)).toInt32 &&& (1431655765 : Int32)))).toUInt32 >>> (((2 : Int32)).toUInt32 &&& Int32.toUInt32 31)).toInt32 &&& (858993459 : Int32)))).toUInt32 >>> (((4 : Int32)).toUInt32 &&& Int32.toUInt32 31)).toInt32) &&& (252645135 : Int32))).toUInt32 >>> (((8 : Int32)).toUInt32 &&& Int32.toUInt32 31)).toInt32) + ((((((((a0 - (((a0).toUInt32 >>> (((1 : Int32)).toUInt32 &&& Int32.toUInt32 31)).toInt32 &&& (1431655765 : Int32))) &&& (858993459 : Int32)) + ((((a0 - (((a0).toUInt32 >>> (((1 : Int32)).toUInt32 &&& Int32.toUInt32 31)).toInt32 &&& (1431655765 : Int32)))).toUInt32 >>> (((2 : Int32)).toUInt32 &&& Int32.toUInt32 31)).toInt32 &&& (858993459 : Int32))) + (((((a0 - (((a0).toUInt32 >>> (((1 : Int32)).toUInt32 &&& Int32.toUInt32 31)).toInt32 &&& (1431655765 : Int32))) &&& (858993459 : Int32)) + ((((a0 - (((a0).toUInt32 >>> (((1 : Int32)).toUInt32 &&& Int32.toUInt32 31)).toInt32 &&& (1431655765 : Int32)))).toUInt32 >>> (((2 : Int32)).toUInt32 &&& Int32.toUInt32 31)).toInt32 &&& (858993459 : Int32)))).toUInt32 >>> (((4 : Int32)).toUInt32 &&& Int32.toUInt32 31)).toInt32) &&& (252645135 : Int32)) + (((((((a0 - (((a0).toUInt32 >>> (((1 : Int32)).toUInt32 &&& Int32.toUInt32 31)).toInt32 &&& (1431655765 : Int32))) &&& (858993459 : Int32)) + ((((a0 - (((a0).toUInt32 >>> (((1 : Int32)).toUInt32 &&& Int32.toUInt32 31)).toInt32 &&& (1431655765 : Int32)))).toUInt32 >>> (((2 : Int32)).toUInt32 &&& Int32.toUInt32 31)).toInt32 &&& (858993459 : Int32))) + (((((a0 - (((a0).toUInt32 >>> (((1 : Int32)).toUInt32 &&& Int32.toUInt32 31)).toInt32 &&& (1431655765 : Int32))) &&& (858993459 : Int32)) + ((((a0 - (((a0).toUInt32 >>> (((1 : Int32)).toUInt32 &&& Int32.toUInt32 31)).toInt32 &&& (1431655765 : Int32)))).toUInt32 >>> (((2 : Int32)).toUInt32 &&& Int32.toUInt32 31)).toInt32 &&& (858993459 : Int32)))).toUInt32 >>> (((4 : Int32)).toUInt32 &&& Int32.toUInt32 31)).toInt32) &&& (252645135 : Int32))).toUInt32 >>> (((8 : Int32)).toUInt32 &&& Int32.toUInt32 31)).toInt32)).toUInt32 >>> (((16 : Int32)).toUInt32 &&& Int32.toUInt32 31)).toInt32) &&& (63 : Int32))
theorem bcF_ok : ∀ s : Nat, s < 256 → bcF (Int32.ofNat s) = Int32.ofNat (pcn s) := by decide +kernel
theorem F_bits (d len : Nat) (μ : zMu) (ν : zNu) (a : Int32) : zF zT0 (d + 1) 293 [.int a] (zm len μ ν) = some (.int (bcF a), zm len μ ν) := by
  rw [B_J6_bitCount_0f7a4]
  rfl
theorem ones_loop (call : zC) (len : Nat) (μ : zMu) (ν : zNu) (x1 : Int32) : ∀ (n s : Nat) (c : Int), s ≤ n → s < 256 → zE zc_X12_ones call 4 [.ref 92, .int x1, .int (zi c), .int (zi (s : Int))] [] (zm len μ ν) = some (.int (zi (c + (pcn s : Int))), zm len μ ν) := by
  intro n
  induction n with
  | zero =>
    intro s c hn hs
    have e : s = 0 := by omega
    subst e
    have e2 : (pcn 0 : Int) = 0 := rfl
    rw [B_X12_ones_4]
    simp (disch := omega) only [e2, Int.add_zero, zbi_some, zbl_some, zbv_some, zbi_none, zbl_none, zbv_none, zbi_ite, zbl_ite, zbv_ite, zbZ, zbO, zc_lt, zc_le, zc_ge, zc_gt, zc_eq, zk0, zk1, zk2, zk3, zk4, zk5, zk6, zk7, zk8, zk9, zk10, zk11, zk12, zk14, zk15, zk16, zk17, zk19, zk20, zk21, zk24, zk25, zk30, zk32, zk36, zk40, zk45, zk50, zk64, zk97, zk99, zk100, zk102, zk122, zk128, zk255, zk800, zk801, zk900, zk999, zk1000, zk1997, zk9999, zk10000, zk100000, zk99999, zk9999999, zk999999999, zk2147483647, zlc0, zlc1, zlc2, zlc3, zlc4, zlc23, zlc99, zlc100, zlc9999999, zlc999999999999, zlc1073741824, zi_neg, zi_add, zi_sub, zi_mul, zl_neg, zl_add, zl_sub, zl_mul, zi_toInt, zi_nat, zi_le, zi_lt, zi_eq, zl_le, zl_lt, zl_eq, zl_toInt, zl_of32, zi_of64, zi_div, zl_div, zmodI, ↓reduceIte, zTle, zFle, zTlt, zFlt, zTeq, zFeq, if_true, if_false, and_self, and_true, true_and, and_false, false_and, or_self, or_true, true_or, or_false, false_or, not_true_eq_false, not_false_eq_true, zcastA, zcastL, znatC, zab, Int.reduceAdd, Int.reduceSub, Int.reduceMul, Int.reduceNeg, Int.reduceToNat, Nat.reduceAdd]
  | succ n ih =>
    intro s c hn hs
    by_cases q : s = 0
    · subst q
      have e2 : (pcn 0 : Int) = 0 := rfl
      rw [B_X12_ones_4]
      simp (disch := omega) only [e2, Int.add_zero, zbi_some, zbl_some, zbv_some, zbi_none, zbl_none, zbv_none, zbi_ite, zbl_ite, zbv_ite, zbZ, zbO, zc_lt, zc_le, zc_ge, zc_gt, zc_eq, zk0, zk1, zk2, zk3, zk4, zk5, zk6, zk7, zk8, zk9, zk10, zk11, zk12, zk14, zk15, zk16, zk17, zk19, zk20, zk21, zk24, zk25, zk30, zk32, zk36, zk40, zk45, zk50, zk64, zk97, zk99, zk100, zk102, zk122, zk128, zk255, zk800, zk801, zk900, zk999, zk1000, zk1997, zk9999, zk10000, zk100000, zk99999, zk9999999, zk999999999, zk2147483647, zlc0, zlc1, zlc2, zlc3, zlc4, zlc23, zlc99, zlc100, zlc9999999, zlc999999999999, zlc1073741824, zi_neg, zi_add, zi_sub, zi_mul, zl_neg, zl_add, zl_sub, zl_mul, zi_toInt, zi_nat, zi_le, zi_lt, zi_eq, zl_le, zl_lt, zl_eq, zl_toInt, zl_of32, zi_of64, zi_div, zl_div, zmodI, ↓reduceIte, zTle, zFle, zTlt, zFlt, zTeq, zFeq, if_true, if_false, and_self, and_true, true_and, and_false, false_and, or_self, or_true, true_or, or_false, false_or, not_true_eq_false, not_false_eq_true, zcastA, zcastL, znatC, zab, Int.reduceAdd, Int.reduceSub, Int.reduceMul, Int.reduceNeg, Int.reduceToNat, Nat.reduceAdd]
    · obtain ⟨h1, h2⟩ := pcn_k s hs q
      have e1 : (s : Int) - 1 = ((s - 1 : Nat) : Int) := by omega
      have q2 : ¬ ((s : Int) = 0) := by omega
      have ih := ih (s &&& (s - 1)) (c + 1) (by omega) (by omega)
      have e3 : c + 1 + (pcn (s &&& (s - 1)) : Int) = c + (pcn s : Int) := by omega
      rw [e3] at ih
      rw [B_X12_ones_4]
      simp (disch := omega) only [q2, e1, zb_andN, zbi_some, zbl_some, zbv_some, zbi_none, zbl_none, zbv_none, zbi_ite, zbl_ite, zbv_ite, zbZ, zbO, zc_lt, zc_le, zc_ge, zc_gt, zc_eq, zk0, zk1, zk2, zk3, zk4, zk5, zk6, zk7, zk8, zk9, zk10, zk11, zk12, zk14, zk15, zk16, zk17, zk19, zk20, zk21, zk24, zk25, zk30, zk32, zk36, zk40, zk45, zk50, zk64, zk97, zk99, zk100, zk102, zk122, zk128, zk255, zk800, zk801, zk900, zk999, zk1000, zk1997, zk9999, zk10000, zk100000, zk99999, zk9999999, zk999999999, zk2147483647, zlc0, zlc1, zlc2, zlc3, zlc4, zlc23, zlc99, zlc100, zlc9999999, zlc999999999999, zlc1073741824, zi_neg, zi_add, zi_sub, zi_mul, zl_neg, zl_add, zl_sub, zl_mul, zi_toInt, zi_nat, zi_le, zi_lt, zi_eq, zl_le, zl_lt, zl_eq, zl_toInt, zl_of32, zi_of64, zi_div, zl_div, zmodI, ↓reduceIte, zTle, zFle, zTlt, zFlt, zTeq, zFeq, if_true, if_false, and_self, and_true, true_and, and_false, false_and, or_self, or_true, true_or, or_false, false_or, not_true_eq_false, not_false_eq_true, zcastA, zcastL, znatC, zab, Int.reduceAdd, Int.reduceSub, Int.reduceMul, Int.reduceNeg, Int.reduceToNat, Nat.reduceAdd]
      exact ih
theorem F_ones (d len : Nat) (μ : zMu) (ν : zNu) (s : Nat) (hs : s < 256) : zF zT0 (d + 1) 247 [.ref 92, .int (zi (s : Int))] (zm len μ ν) = some (.int (zi (pcn s : Int)), zm len μ ν) := by
  have K := ones_loop (zF zT0 d) len μ ν (zi (s : Int)) s s 0 (Nat.le_refl s) hs
  rw [Int.zero_add] at K
  rw [B_X12_ones]
  exact K
theorem sdf_sdf (a b c : Nat) : sdf a (b ||| c) = sdf (sdf a b) c := by
  apply Nat.eq_of_testBit_eq
  intro i
  rw [sdf_bit, sdf_bit, sdf_bit, Nat.testBit_or]
  cases a.testBit i <;> cases b.testBit i <;> cases c.testBit i <;> rfl
theorem m97 (d len n : Nat) (ν : zNu) (L R : Nat → Int) (μ : zMu) (set : Nat) (x2 : Int32) (hR : Rn n L R μ) (hset : set < 2 ^ n) (h0 : set ≠ 0) (hq : Rw (gpF (μ 129) L R) set 1 μ) : zE zc_X12_row (zF zT0 (d + 2)) 97 [.ref 92, .int (zi (set : Int)), .int x2, .int (zi 1000000), .int (zi 0), .int (zi 0)] [] (zm len μ ν) = zE zc_X12_row (zF zT0 (d + 2)) 97 [.ref 92, .int (zi (set : Int)), .int x2, .int (zi (rR (gpF (μ 129) L R) set).1), .int (zi (rR (gpF (μ 129) L R) set).2), .int (zi 8)] [] (zm len μ ν) := by
  have hp : 2 ^ n ≤ 2 ^ 8 := Nat.pow_le_pow_right (by decide) hR.1
  obtain ⟨gp, hgp⟩ : ∃ gp, gp = gpF (μ 129) L R := ⟨_, rfl⟩
  have gb : ∀ f g, 0 ≤ gp f g ∧ gp f g ≤ 105 := fun f g => by rw [hgp]; exact gpF_b (fun i => (hR.2.2.1 i).2) (fun i => (hR.2.2.2 i).2) f g
  rw [← hgp] at hq ⊢
  have b := fun f => rG_b gb set set f (Nat.le_refl _) (by omega)
  have fb := fld_bd (b := fun f => set.testBit f) (v := fun f => (rG gp set f).1) (w := fun f => (rG gp set f).2) (s0 := (1000000, 0)) (lo := 0) (hi := 1000000) ⟨by show (0 : Int) ≤ 1000000; omega, Int.le_refl _⟩ (fun k => by
    have := b k
    show 0 ≤ (rG gp set k).1 ∧ (rG gp set k).1 ≤ 1000000
    omega)
  have K := zloop (f := fun j => zE zc_X12_row (zF zT0 (d + 2)) 97 [.ref 92, .int (zi (set : Int)), .int x2, .int (zi (fld (fun f => set.testBit f) (fun f => (rG gp set f).1) (fun f => (rG gp set f).2) (1000000, 0) j).1), .int (zi (fld (fun f => set.testBit f) (fun f => (rG gp set f).1) (fun f => (rG gp set f).2) (1000000, 0) j).2), .int (zi (j : Int))] [] (zm len μ ν)) (n := 8) (fun j hj => by
    have b1 := b j
    have b2 := fb j
    show zE _ _ _ _ _ _ = zE _ _ _ _ _ _
    rw [B_X12_row_97, fld_S]
    cases q : set.testBit j with
    | false => simp (disch := omega) only [zb_bit, q, Bool.false_eq_true, B_X12_row_208, zbi_some, zbl_some, zbv_some, zbi_none, zbl_none, zbv_none, zbi_ite, zbl_ite, zbv_ite, zbZ, zbO, zc_lt, zc_le, zc_ge, zc_gt, zc_eq, zk0, zk1, zk2, zk3, zk4, zk5, zk6, zk7, zk8, zk9, zk10, zk11, zk12, zk14, zk15, zk16, zk17, zk19, zk20, zk21, zk24, zk25, zk30, zk32, zk36, zk40, zk45, zk50, zk64, zk97, zk99, zk100, zk102, zk122, zk128, zk255, zk800, zk801, zk900, zk999, zk1000, zk1997, zk9999, zk10000, zk100000, zk99999, zk9999999, zk999999999, zk2147483647, zlc0, zlc1, zlc2, zlc3, zlc4, zlc23, zlc99, zlc100, zlc9999999, zlc999999999999, zlc1073741824, zi_neg, zi_add, zi_sub, zi_mul, zl_neg, zl_add, zl_sub, zl_mul, zi_toInt, zi_nat, zi_le, zi_lt, zi_eq, zl_le, zl_lt, zl_eq, zl_toInt, zl_of32, zi_of64, zi_div, zl_div, zmodI, ↓reduceIte, zTle, zFle, zTlt, zFlt, zTeq, zFeq, if_true, if_false, and_self, and_true, true_and, and_false, false_and, or_self, or_true, true_or, or_false, false_or, not_true_eq_false, not_false_eq_true, zcastA, zcastL, znatC, zab, Int.reduceAdd, Int.reduceSub, Int.reduceMul, Int.reduceNeg, Int.reduceToNat, Nat.reduceAdd]
    | true =>
      obtain ⟨T, hT⟩ : ∃ T, T = 2 ^ j := ⟨_, rfl⟩
      have hsh : zi 1 <<< (zi (j : Int) &&& 31) = zi (T : Int) := by rw [zb_shl (by omega), hT]
      have Ts : sub T set := fun i hi => by
        rw [hT, Nat.testBit_two_pow] at hi
        have : j = i := by simpa using hi
        rw [← this]
        exact q
      have Tb : T.testBit j = true := by rw [hT]; exact Nat.testBit_two_pow_self
      have T1 : 1 ≤ T := by rw [hT]; exact Nat.two_pow_pos j
      have Tm : T ≤ set := Nat.le_of_testBit Ts
      have h5 := hq T j T1 Ts Tb
      rw [show sdf set T ||| 2 ^ j = set by rw [hT]; exact sdf_back q] at h5
      have ix : (8 * (T : Int) + (j : Int)).toNat = 8 * T + j := by omega
      by_cases c1 : (rG gp set j).1 < (fld (fun f => set.testBit f) (fun f => (rG gp set f).1) (fun f => (rG gp set f).2) (1000000, 0) j).1
      · simp (disch := omega) only [zb_bit, q, hsh, ix, h5.1, h5.2, c1, B_X12_row_190, B_X12_row_208, zbi_some, zbl_some, zbv_some, zbi_none, zbl_none, zbv_none, zbi_ite, zbl_ite, zbv_ite, zbZ, zbO, zc_lt, zc_le, zc_ge, zc_gt, zc_eq, zk0, zk1, zk2, zk3, zk4, zk5, zk6, zk7, zk8, zk9, zk10, zk11, zk12, zk14, zk15, zk16, zk17, zk19, zk20, zk21, zk24, zk25, zk30, zk32, zk36, zk40, zk45, zk50, zk64, zk97, zk99, zk100, zk102, zk122, zk128, zk255, zk800, zk801, zk900, zk999, zk1000, zk1997, zk9999, zk10000, zk100000, zk99999, zk9999999, zk999999999, zk2147483647, zlc0, zlc1, zlc2, zlc3, zlc4, zlc23, zlc99, zlc100, zlc9999999, zlc999999999999, zlc1073741824, zi_neg, zi_add, zi_sub, zi_mul, zl_neg, zl_add, zl_sub, zl_mul, zi_toInt, zi_nat, zi_le, zi_lt, zi_eq, zl_le, zl_lt, zl_eq, zl_toInt, zl_of32, zi_of64, zi_div, zl_div, zmodI, ↓reduceIte, zTle, zFle, zTlt, zFlt, zTeq, zFeq, if_true, if_false, and_self, and_true, true_and, and_false, false_and, or_self, or_true, true_or, or_false, false_or, not_true_eq_false, not_false_eq_true, zcastA, zcastL, znatC, zab, Int.reduceAdd, Int.reduceSub, Int.reduceMul, Int.reduceNeg, Int.reduceToNat, Nat.reduceAdd]
      · by_cases c2 : (rG gp set j).1 = (fld (fun f => set.testBit f) (fun f => (rG gp set f).1) (fun f => (rG gp set f).2) (1000000, 0) j).1
        · simp (disch := omega) only [zb_bit, q, hsh, ix, h5.1, h5.2, c2, B_X12_row_190, B_X12_row_208, zbi_some, zbl_some, zbv_some, zbi_none, zbl_none, zbv_none, zbi_ite, zbl_ite, zbv_ite, zbZ, zbO, zc_lt, zc_le, zc_ge, zc_gt, zc_eq, zk0, zk1, zk2, zk3, zk4, zk5, zk6, zk7, zk8, zk9, zk10, zk11, zk12, zk14, zk15, zk16, zk17, zk19, zk20, zk21, zk24, zk25, zk30, zk32, zk36, zk40, zk45, zk50, zk64, zk97, zk99, zk100, zk102, zk122, zk128, zk255, zk800, zk801, zk900, zk999, zk1000, zk1997, zk9999, zk10000, zk100000, zk99999, zk9999999, zk999999999, zk2147483647, zlc0, zlc1, zlc2, zlc3, zlc4, zlc23, zlc99, zlc100, zlc9999999, zlc999999999999, zlc1073741824, zi_neg, zi_add, zi_sub, zi_mul, zl_neg, zl_add, zl_sub, zl_mul, zi_toInt, zi_nat, zi_le, zi_lt, zi_eq, zl_le, zl_lt, zl_eq, zl_toInt, zl_of32, zi_of64, zi_div, zl_div, zmodI, ↓reduceIte, zTle, zFle, zTlt, zFlt, zTeq, zFeq, if_true, if_false, and_self, and_true, true_and, and_false, false_and, or_self, or_true, true_or, or_false, false_or, not_true_eq_false, not_false_eq_true, zcastA, zcastL, znatC, zab, Int.reduceAdd, Int.reduceSub, Int.reduceMul, Int.reduceNeg, Int.reduceToNat, Nat.reduceAdd]
        · simp (disch := omega) only [zb_bit, q, hsh, ix, h5.1, h5.2, c1, c2, B_X12_row_190, B_X12_row_208, zbi_some, zbl_some, zbv_some, zbi_none, zbl_none, zbv_none, zbi_ite, zbl_ite, zbv_ite, zbZ, zbO, zc_lt, zc_le, zc_ge, zc_gt, zc_eq, zk0, zk1, zk2, zk3, zk4, zk5, zk6, zk7, zk8, zk9, zk10, zk11, zk12, zk14, zk15, zk16, zk17, zk19, zk20, zk21, zk24, zk25, zk30, zk32, zk36, zk40, zk45, zk50, zk64, zk97, zk99, zk100, zk102, zk122, zk128, zk255, zk800, zk801, zk900, zk999, zk1000, zk1997, zk9999, zk10000, zk100000, zk99999, zk9999999, zk999999999, zk2147483647, zlc0, zlc1, zlc2, zlc3, zlc4, zlc23, zlc99, zlc100, zlc9999999, zlc999999999999, zlc1073741824, zi_neg, zi_add, zi_sub, zi_mul, zl_neg, zl_add, zl_sub, zl_mul, zi_toInt, zi_nat, zi_le, zi_lt, zi_eq, zl_le, zl_lt, zl_eq, zl_toInt, zl_of32, zi_of64, zi_div, zl_div, zmodI, ↓reduceIte, zTle, zFle, zTlt, zFlt, zTeq, zFeq, if_true, if_false, and_self, and_true, true_and, and_false, false_and, or_self, or_true, true_or, or_false, false_or, not_true_eq_false, not_false_eq_true, zcastA, zcastL, znatC, zab, Int.reduceAdd, Int.reduceSub, Int.reduceMul, Int.reduceNeg, Int.reduceToNat, Nat.reduceAdd])
  exact K
theorem in_step (d len n : Nat) (ν : zNu) (L R : Nat → Int) (μ : zMu) (set lies i : Nat) (x2 : Int32) (k : Int) (last : Nat) (s : Nat × Int × Int) (v7 : Value) (hR : Rn n L R μ) (hset : set < 2 ^ n) (hq : Rw (gpF (μ 129) L R) set 1 μ) (hi : (i : Int) < k) (hk : k ≤ 100) (hs : s.1 = sdf set lies) (hl : sub lies set) (hb : lies.testBit last = true) (hd : s.2.1 = (rG (gpF (μ 129) L R) (sdf set lies ||| 2 ^ last) last).1) (hla : s.2.2 = (last : Int)) (hj : ∃ j, j < 8 ∧ pkP (gpF (μ 129) L R) s j = true) : ∃ v7' : Value, zE zc_X12_inRow (zF zT0 (d + 1)) 49 [.ref 92, .int (zi (set : Int)), .int x2, .int (zi k), .int (zi (last : Int)), .int (zi (lies : Int)), .int (zi (i : Int)), v7] [] (zm len μ ν) = zE zc_X12_inRow (zF zT0 (d + 1)) 49 [.ref 92, .int (zi (set : Int)), .int x2, .int (zi k), .int (zi (pkF (gpF (μ 129) L R) s : Int)), .int (zi ((lies ||| 2 ^ pkF (gpF (μ 129) L R) s : Nat) : Int)), .int (zi ((i + 1 : Nat) : Int)), v7'] [] (zm len μ ν) := by
  have hp : 2 ^ n ≤ 2 ^ 8 := Nat.pow_le_pow_right (by decide) hR.1
  have l8 : last < 8 := bit8 (Nat.lt_of_lt_of_le (lt_of_sub hl hset) hp) hb
  have GAP := fun g h => F_gapM d len μ ν last g L R l8 h hR.2.2.1 hR.2.2.2
  obtain ⟨gp, hgp⟩ : ∃ gp, gp = gpF (μ 129) L R := ⟨_, rfl⟩
  have gb : ∀ f g, 0 ≤ gp f g ∧ gp f g ≤ 105 := fun f g => by rw [hgp]; exact gpF_b (fun i => (hR.2.2.1 i).2) (fun i => (hR.2.2.2 i).2) f g
  rw [← hgp] at hq hd hj GAP ⊢
  obtain ⟨r, hr⟩ : ∃ r, r = sdf set lies := ⟨_, rfl⟩
  rw [← hr] at hs hd
  have rle : r ≤ set := by rw [hr]; exact sdf_le _ _
  have rs : sub r set := by rw [hr]; exact sub_sdf (fun i h => h)
  have b := fun f => rG_b gb r r f (Nat.le_refl _) (by omega)
  have lle : lies ≤ set := Nat.le_of_testBit hl
  have hdl := hq lies last (by
    refine Nat.one_le_iff_ne_zero.mpr (fun z => ?_)
    rw [z, Nat.zero_testBit] at hb
    cases hb) hl hb
  rw [← hr] at hdl
  have bd := rG_b gb (r ||| 2 ^ last) (r ||| 2 ^ last) last (Nat.le_refl _) (lt_of_sub (k := 8) (sub_or rs (hl last hb)) (by omega))
  have bdl : r ||| 2 ^ last ≤ set := Nat.le_of_testBit (sub_or rs (hl last hb))
  obtain ⟨j, j1, j2⟩ := hj
  obtain ⟨_, m2, m3, m4⟩ := lst_ok (P := pkP gp s) (n := 8) (k := 0) (j := j) (by omega) (by omega) j2
  have hF : lst (pkP gp s) 8 0 = pkF gp s := rfl
  rw [hF] at m2 m3 m4
  have ngl : ∀ f, glF gp s.2.2 f = gp last f := fun f => by
    unfold glF
    rw [hla, if_neg (by omega), znatC]
  obtain ⟨q1, q2, q3⟩ := pkP_lt (n := n) (by rw [hs]; exact lt_of_sub rs hset) m3
  rw [hs, ngl] at q3
  rw [hs] at q2
  have row : ∀ f, r.testBit f = true → ∃ T : Nat, lies ||| 2 ^ f = T ∧ T ≤ set ∧ μ 132 (8 * T + f) = zi (rG gp r f).1 := fun f hf => by
    have q' : (sdf set lies).testBit f = true := by rw [← hr]; exact hf
    have sg : set.testBit f = true := rs f hf
    have Ts : sub (lies ||| 2 ^ f) set := sub_or hl sg
    have Tb : (lies ||| 2 ^ f).testBit f = true := by rw [or_bit]; simp
    have h5 := (hq (lies ||| 2 ^ f) f (by
      refine Nat.one_le_iff_ne_zero.mpr (fun z => ?_)
      rw [z, Nat.zero_testBit] at Tb
      cases Tb) Ts Tb).1
    rw [sdf_or q', ← hr] at h5
    exact ⟨lies ||| 2 ^ f, rfl, Nat.le_of_testBit Ts, h5⟩
  have ixl : (8 * (lies : Int) + (last : Int)).toNat = 8 * lies + last := by omega
  have step : ∀ f, f < pkF gp s → zE zc_X12_inRow (zF zT0 (d + 1)) 58 [.ref 92, .int (zi (set : Int)), .int x2, .int (zi k), .int (zi (last : Int)), .int (zi (lies : Int)), .int (zi (i : Int)), .int (zi (f : Int))] [] (zm len μ ν) = zE zc_X12_inRow (zF zT0 (d + 1)) 58 [.ref 92, .int (zi (set : Int)), .int x2, .int (zi k), .int (zi (last : Int)), .int (zi (lies : Int)), .int (zi (i : Int)), .int (zi ((f + 1 : Nat) : Int))] [] (zm len μ ν) := fun f hf => by
    have pf := m4 f (by omega) hf
    rw [B_X12_inRow_58]
    cases q : r.testBit f with
    | false => simp (disch := omega) only [zb_not, ← hr, zb_bit, q, Bool.false_eq_true, B_X12_inRow_115, zbi_some, zbl_some, zbv_some, zbi_none, zbl_none, zbv_none, zbi_ite, zbl_ite, zbv_ite, zbZ, zbO, zc_lt, zc_le, zc_ge, zc_gt, zc_eq, zk0, zk1, zk2, zk3, zk4, zk5, zk6, zk7, zk8, zk9, zk10, zk11, zk12, zk14, zk15, zk16, zk17, zk19, zk20, zk21, zk24, zk25, zk30, zk32, zk36, zk40, zk45, zk50, zk64, zk97, zk99, zk100, zk102, zk122, zk128, zk255, zk800, zk801, zk900, zk999, zk1000, zk1997, zk9999, zk10000, zk100000, zk99999, zk9999999, zk999999999, zk2147483647, zlc0, zlc1, zlc2, zlc3, zlc4, zlc23, zlc99, zlc100, zlc9999999, zlc999999999999, zlc1073741824, zi_neg, zi_add, zi_sub, zi_mul, zl_neg, zl_add, zl_sub, zl_mul, zi_toInt, zi_nat, zi_le, zi_lt, zi_eq, zl_le, zl_lt, zl_eq, zl_toInt, zl_of32, zi_of64, zi_div, zl_div, zmodI, ↓reduceIte, zTle, zFle, zTlt, zFlt, zTeq, zFeq, if_true, if_false, and_self, and_true, true_and, and_false, false_and, or_self, or_true, true_or, or_false, false_or, not_true_eq_false, not_false_eq_true, zcastA, zcastL, znatC, zab, Int.reduceAdd, Int.reduceSub, Int.reduceMul, Int.reduceNeg, Int.reduceToNat, Nat.reduceAdd]
    | true =>
      have ne : ¬ (gp last f + (rG gp r f).1 = s.2.1) := fun z => by
        unfold pkP at pf
        rw [hs, ngl, q, z] at pf
        simp at pf
      rw [hd] at ne
      obtain ⟨T, hT, Tm, h5⟩ := row f q
      have ix : (8 * (T : Int) + (f : Int)).toNat = 8 * T + f := by omega
      have G := GAP f (by omega)
      have b1 := b f
      have b2 := gb last f
      simp (disch := omega) only [zb_not, ← hr, zb_bit, q, G, B_X12_inRow_80, zb_shl, zb_orN, hT, ix, h5, ixl, hdl.1, ne, B_X12_inRow_115, zbi_some, zbl_some, zbv_some, zbi_none, zbl_none, zbv_none, zbi_ite, zbl_ite, zbv_ite, zbZ, zbO, zc_lt, zc_le, zc_ge, zc_gt, zc_eq, zk0, zk1, zk2, zk3, zk4, zk5, zk6, zk7, zk8, zk9, zk10, zk11, zk12, zk14, zk15, zk16, zk17, zk19, zk20, zk21, zk24, zk25, zk30, zk32, zk36, zk40, zk45, zk50, zk64, zk97, zk99, zk100, zk102, zk122, zk128, zk255, zk800, zk801, zk900, zk999, zk1000, zk1997, zk9999, zk10000, zk100000, zk99999, zk9999999, zk999999999, zk2147483647, zlc0, zlc1, zlc2, zlc3, zlc4, zlc23, zlc99, zlc100, zlc9999999, zlc999999999999, zlc1073741824, zi_neg, zi_add, zi_sub, zi_mul, zl_neg, zl_add, zl_sub, zl_mul, zi_toInt, zi_nat, zi_le, zi_lt, zi_eq, zl_le, zl_lt, zl_eq, zl_toInt, zl_of32, zi_of64, zi_div, zl_div, zmodI, ↓reduceIte, zTle, zFle, zTlt, zFlt, zTeq, zFeq, if_true, if_false, and_self, and_true, true_and, and_false, false_and, or_self, or_true, true_or, or_false, false_or, not_true_eq_false, not_false_eq_true, zcastA, zcastL, znatC, zab, Int.reduceAdd, Int.reduceSub, Int.reduceMul, Int.reduceNeg, Int.reduceToNat, Nat.reduceAdd]
  have K := zloop (f := fun f => zE zc_X12_inRow (zF zT0 (d + 1)) 58 [.ref 92, .int (zi (set : Int)), .int x2, .int (zi k), .int (zi (last : Int)), .int (zi (lies : Int)), .int (zi (i : Int)), .int (zi (f : Int))] [] (zm len μ ν)) (n := pkF gp s) step
  have K0 : zE zc_X12_inRow (zF zT0 (d + 1)) 58 [.ref 92, .int (zi (set : Int)), .int x2, .int (zi k), .int (zi (last : Int)), .int (zi (lies : Int)), .int (zi (i : Int)), .int (zi 0)] [] (zm len μ ν) = zE zc_X12_inRow (zF zT0 (d + 1)) 58 [.ref 92, .int (zi (set : Int)), .int x2, .int (zi k), .int (zi (last : Int)), .int (zi (lies : Int)), .int (zi (i : Int)), .int (zi (pkF gp s : Int))] [] (zm len μ ν) := K
  refine ⟨.int (zi (pkF gp s : Int)), ?_⟩
  obtain ⟨f, hf⟩ : ∃ f, f = pkF gp s := ⟨_, rfl⟩
  rw [← hf] at K0 q1 q2 q3 m2 ⊢
  obtain ⟨T, hT, Tm, h5⟩ := row f q2
  have ix : (8 * (T : Int) + (f : Int)).toNat = 8 * T + f := by omega
  have G := GAP f (by omega)
  have b1 := b f
  have b2 := gb last f
  rw [hd] at q3
  rw [B_X12_inRow_49, hT]
  simp (disch := omega) only [K0, zbi_some, zbl_some, zbv_some, zbi_none, zbl_none, zbv_none, zbi_ite, zbl_ite, zbv_ite, zbZ, zbO, zc_lt, zc_le, zc_ge, zc_gt, zc_eq, zk0, zk1, zk2, zk3, zk4, zk5, zk6, zk7, zk8, zk9, zk10, zk11, zk12, zk14, zk15, zk16, zk17, zk19, zk20, zk21, zk24, zk25, zk30, zk32, zk36, zk40, zk45, zk50, zk64, zk97, zk99, zk100, zk102, zk122, zk128, zk255, zk800, zk801, zk900, zk999, zk1000, zk1997, zk9999, zk10000, zk100000, zk99999, zk9999999, zk999999999, zk2147483647, zlc0, zlc1, zlc2, zlc3, zlc4, zlc23, zlc99, zlc100, zlc9999999, zlc999999999999, zlc1073741824, zi_neg, zi_add, zi_sub, zi_mul, zl_neg, zl_add, zl_sub, zl_mul, zi_toInt, zi_nat, zi_le, zi_lt, zi_eq, zl_le, zl_lt, zl_eq, zl_toInt, zl_of32, zi_of64, zi_div, zl_div, zmodI, ↓reduceIte, zTle, zFle, zTlt, zFlt, zTeq, zFeq, if_true, if_false, and_self, and_true, true_and, and_false, false_and, or_self, or_true, true_or, or_false, false_or, not_true_eq_false, not_false_eq_true, zcastA, zcastL, znatC, zab, Int.reduceAdd, Int.reduceSub, Int.reduceMul, Int.reduceNeg, Int.reduceToNat, Nat.reduceAdd]
  rw [B_X12_inRow_58]
  simp (disch := omega) only [zb_not, ← hr, zb_bit, q2, G, B_X12_inRow_80, zb_shl, zb_orN, hT, ix, h5, ixl, hdl.1, q3, zbi_some, zbl_some, zbv_some, zbi_none, zbl_none, zbv_none, zbi_ite, zbl_ite, zbv_ite, zbZ, zbO, zc_lt, zc_le, zc_ge, zc_gt, zc_eq, zk0, zk1, zk2, zk3, zk4, zk5, zk6, zk7, zk8, zk9, zk10, zk11, zk12, zk14, zk15, zk16, zk17, zk19, zk20, zk21, zk24, zk25, zk30, zk32, zk36, zk40, zk45, zk50, zk64, zk97, zk99, zk100, zk102, zk122, zk128, zk255, zk800, zk801, zk900, zk999, zk1000, zk1997, zk9999, zk10000, zk100000, zk99999, zk9999999, zk999999999, zk2147483647, zlc0, zlc1, zlc2, zlc3, zlc4, zlc23, zlc99, zlc100, zlc9999999, zlc999999999999, zlc1073741824, zi_neg, zi_add, zi_sub, zi_mul, zl_neg, zl_add, zl_sub, zl_mul, zi_toInt, zi_nat, zi_le, zi_lt, zi_eq, zl_le, zl_lt, zl_eq, zl_toInt, zl_of32, zi_of64, zi_div, zl_div, zmodI, ↓reduceIte, zTle, zFle, zTlt, zFlt, zTeq, zFeq, if_true, if_false, and_self, and_true, true_and, and_false, false_and, or_self, or_true, true_or, or_false, false_or, not_true_eq_false, not_false_eq_true, zcastA, zcastL, znatC, zab, Int.reduceAdd, Int.reduceSub, Int.reduceMul, Int.reduceNeg, Int.reduceToNat, Nat.reduceAdd]

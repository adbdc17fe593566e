/-! RULES: one step of a reckoning -/
def Tst (o a : Int) (h : Nat) (T : Nat → Nat) (h' : Nat) (T' : Nat → Nat) : Prop :=
  (o = 0 ∧ (0 ≤ a ∧ a ≤ 9999) ∧ h < 64 ∧ h' = h + 1 ∧ (∀ i, i < h → T' i = T i) ∧ (T' h = 0 ∨ (T' h = 1 ∧ a ≠ 0))) ∨
  (o = 1 ∧ (0 ≤ a ∧ a ≤ 4) ∧ h < 64 ∧ h' = h + 1 ∧ (∀ i, i < h → T' i = T i) ∧ T' h = 0) ∨
  ((2 ≤ o ∧ o ≤ 8) ∧ (2 ≤ h ∧ h ≤ 64) ∧ h' + 1 = h ∧ (o = 5 → T (h - 1) = 1) ∧ (∀ i, i + 2 < h → T' i = T i) ∧ (T' (h - 2) = 0 ∨ (T' (h - 2) = 2 ∧ 6 ≤ o))) ∨
  (o = 9 ∧ (1 ≤ h ∧ h ≤ 64) ∧ T (h - 1) = 2 ∧ h' = h ∧ (∀ i, i < h → T' i = T i)) ∨
  ((10 ≤ o ∧ o ≤ 11) ∧ (2 ≤ h ∧ h ≤ 64) ∧ T (h - 1) = 2 ∧ T (h - 2) = 2 ∧ h' + 1 = h ∧ (∀ i, i + 2 < h → T' i = T i) ∧ T' (h - 2) = 2)
def Iv (h : Nat) (T : Nat → Nat) (f : Nat → Int32) : Prop := ∀ i, i < h → (T i = 1 → f i ≠ zi 0) ∧ (T i = 2 → f i = zi 0 ∨ f i = zi 1)
def fS (o a : Int) (h : Nat) (q f : Nat → Int32) : Nat → Int32 := if o = 0 then upd f h (zi a) else if o = 1 then upd f h (q a.toNat) else if o = 9 then upd f (h - 1) (zi 1 - f (h - 1)) else upd f (h - 2) (opV o (f (h - 2)) (f (h - 1)))
theorem opC_0 {o : Int} (a : Int) (h : 2 ≤ o) : opC o a = opC o 0 := by
  unfold opC
  simp only [if_neg (show ¬o = 0 by omega), if_neg (show ¬o = 1 by omega)]
theorem opC_r {o : Int} (h : 2 ≤ o ∧ o ≤ 8) : -62 ≤ opC o 0 ∧ opC o 0 ≤ -42 := by
  have : o = 2 ∨ o = 3 ∨ o = 4 ∨ o = 5 ∨ o = 6 ∨ o = 7 ∨ o = 8 := by omega
  rcases this with q | q | q | q | q | q | q <;> subst q <;> decide
theorem opC_r2 {o : Int} (h : 10 ≤ o ∧ o ≤ 11) : -136 ≤ opC o 0 ∧ opC o 0 ≤ -135 := by
  have : o = 10 ∨ o = 11 := by omega
  rcases this with q | q <;> subst q <;> decide
theorem rk_c (d len : Nat) (μ : zMu) (ν : zNu) (fr to : Int) (k h h' : Nat) (T T' : Nat → Nat) (o a : Int) (f : Nat → Int32) (hfr : 0 ≤ fr ∧ fr ≤ 800) (hto : (k : Int) < to ∧ to ≤ 800) (e : μ 58 k = zi (opC o a)) (t : Tst o a h T h' T') (iv : Iv h T f) (v6 v7 : Value) : ∃ w6 w7 : Value, zE zc_X7_reckon (zF zT0 (d + 2)) 6 [.ref 57, .int (zi fr), .int (zi to), .ref 73, .int (zi (h : Int)), .int (zi (k : Int)), v6, v7] [] (zm len (zrw μ 66 f) ν) = zE zc_X7_reckon (zF zT0 (d + 2)) 6 [.ref 57, .int (zi fr), .int (zi to), .ref 73, .int (zi (h' : Int)), .int (zi ((k : Int) + 1)), w6, w7] [] (zm len (zrw μ 66 (fS o a h (μ 73) f)) ν) := by
  have hx1 : ((h : Int) - 1).toNat = h - 1 := by omega
  have hx2 : ((h : Int) - 1 - 1).toNat = h - 2 := by omega
  have hx3 : ((h : Int) + -1).toNat = h - 1 := by omega
  have hx4 : ((h : Int) + -1 - 1).toNat = h - 2 := by omega
  have e800 : Int32.ofNat 800 = zi 800 := rfl
  have e5 : Int32.ofNat 5 = zi 5 := rfl
  unfold fS
  rcases t with ⟨t1, t2, t3, t4, t5, t6⟩ | ⟨t1, t2, t3, t4, t5, t6⟩ | ⟨t1, t2, t3, t4, t5, t6⟩ | ⟨t1, t2, t3, t4, t5⟩ | ⟨t1, t2, t3, t4, t5, t6, t7⟩
  · subst t1
    subst t4
    have e : μ 58 k = zi a := e
    refine ⟨.int (zi a), .int (zi (-a - 138)), ?_⟩
    rw [B_X7_reckon_6]
    simp (disch := omega) only [e800, e5, zrw_s, zrw_n, e, zq137, zq138, B_X7_reckon_94, B_X7_reckon_121, zup_zrw, B_X7_reckon_168, zbi_some, zbl_some, zbv_some, zbi_none, zbl_none, zbv_none, zbi_ite, zbl_ite, zbv_ite, zbZ, zbO, zc_lt, zc_le, zc_ge, zc_gt, zc_eq, zk0, zk1, zk2, zk3, zk4, zk5, zk6, zk7, zk8, zk9, zk10, zk11, zk12, zk14, zk15, zk16, zk17, zk19, zk20, zk21, zk24, zk25, zk30, zk32, zk36, zk40, zk45, zk50, zk64, zk97, zk99, zk100, zk102, zk122, zk128, zk255, zk800, zk801, zk900, zk999, zk1000, zk1997, zk9999, zk10000, zk100000, zk99999, zk9999999, zk999999999, zk2147483647, zlc0, zlc1, zlc2, zlc3, zlc4, zlc23, zlc99, zlc100, zlc9999999, zlc999999999999, zlc1073741824, zi_neg, zi_add, zi_sub, zi_mul, zl_neg, zl_add, zl_sub, zl_mul, zi_toInt, zi_nat, zi_le, zi_lt, zi_eq, zl_le, zl_lt, zl_eq, zl_toInt, zl_of32, zi_of64, zi_div, zl_div, zmodI, ↓reduceIte, zTle, zFle, zTlt, zFlt, zTeq, zFeq, if_true, if_false, and_self, and_true, true_and, and_false, false_and, or_self, or_true, true_or, or_false, false_or, not_true_eq_false, not_false_eq_true, zcastA, zcastL, znatC, zab, Int.reduceAdd, Int.reduceSub, Int.reduceMul, Int.reduceNeg, Int.reduceToNat, Nat.reduceAdd]
  · subst t1
    subst t4
    have e : μ 58 k = zi (-(138 + a)) := e
    have hn : - -(138 + a) - 138 = a := by omega
    refine ⟨.int (zi (-(138 + a))), .int (zi a), ?_⟩
    rw [B_X7_reckon_6]
    simp (disch := omega) only [e800, e5, zrw_s, zrw_n, e, zq137, zq138, hn, F_within, B_X7_reckon_91, B_X7_reckon_94, B_X7_reckon_121, zup_zrw, B_X7_reckon_168, zbi_some, zbl_some, zbv_some, zbi_none, zbl_none, zbv_none, zbi_ite, zbl_ite, zbv_ite, zbZ, zbO, zc_lt, zc_le, zc_ge, zc_gt, zc_eq, zk0, zk1, zk2, zk3, zk4, zk5, zk6, zk7, zk8, zk9, zk10, zk11, zk12, zk14, zk15, zk16, zk17, zk19, zk20, zk21, zk24, zk25, zk30, zk32, zk36, zk40, zk45, zk50, zk64, zk97, zk99, zk100, zk102, zk122, zk128, zk255, zk800, zk801, zk900, zk999, zk1000, zk1997, zk9999, zk10000, zk100000, zk99999, zk9999999, zk999999999, zk2147483647, zlc0, zlc1, zlc2, zlc3, zlc4, zlc23, zlc99, zlc100, zlc9999999, zlc999999999999, zlc1073741824, zi_neg, zi_add, zi_sub, zi_mul, zl_neg, zl_add, zl_sub, zl_mul, zi_toInt, zi_nat, zi_le, zi_lt, zi_eq, zl_le, zl_lt, zl_eq, zl_toInt, zl_of32, zi_of64, zi_div, zl_div, zmodI, ↓reduceIte, zTle, zFle, zTlt, zFlt, zTeq, zFeq, if_true, if_false, and_self, and_true, true_and, and_false, false_and, or_self, or_true, true_or, or_false, false_or, not_true_eq_false, not_false_eq_true, zcastA, zcastL, znatC, zab, Int.reduceAdd, Int.reduceSub, Int.reduceMul, Int.reduceNeg, Int.reduceToNat, Nat.reduceAdd]
  · have hj : (h' : Int) = (h : Int) + -1 := by omega
    rw [opC_0 a t1.1] at e
    have oc := opC_r t1
    have J := F_joined (d + 1) len (zrw μ 66 f) ν o (f (h - 2)) (f (h - 1)) (by omega) (fun q => (iv (h - 1) (by omega)).1 (t4 q)) (fun q => by omega)
    refine ⟨.int (zi (opC o 0)), .int (zi (-(opC o 0) - 138)), ?_⟩
    rw [B_X7_reckon_6, hj]
    simp (disch := omega) only [e800, e5, zrw_s, zrw_n, e, zq137, zq138, F_within, B_X7_reckon_91, B_X7_reckon_137, B_X7_reckon_148, hx3, hx4, J, B_X7_reckon_167, zup_zrw, B_X7_reckon_168, zbi_some, zbl_some, zbv_some, zbi_none, zbl_none, zbv_none, zbi_ite, zbl_ite, zbv_ite, zbZ, zbO, zc_lt, zc_le, zc_ge, zc_gt, zc_eq, zk0, zk1, zk2, zk3, zk4, zk5, zk6, zk7, zk8, zk9, zk10, zk11, zk12, zk14, zk15, zk16, zk17, zk19, zk20, zk21, zk24, zk25, zk30, zk32, zk36, zk40, zk45, zk50, zk64, zk97, zk99, zk100, zk102, zk122, zk128, zk255, zk800, zk801, zk900, zk999, zk1000, zk1997, zk9999, zk10000, zk100000, zk99999, zk9999999, zk999999999, zk2147483647, zlc0, zlc1, zlc2, zlc3, zlc4, zlc23, zlc99, zlc100, zlc9999999, zlc999999999999, zlc1073741824, zi_neg, zi_add, zi_sub, zi_mul, zl_neg, zl_add, zl_sub, zl_mul, zi_toInt, zi_nat, zi_le, zi_lt, zi_eq, zl_le, zl_lt, zl_eq, zl_toInt, zl_of32, zi_of64, zi_div, zl_div, zmodI, ↓reduceIte, zTle, zFle, zTlt, zFlt, zTeq, zFeq, if_true, if_false, and_self, and_true, true_and, and_false, false_and, or_self, or_true, true_or, or_false, false_or, not_true_eq_false, not_false_eq_true, zcastA, zcastL, znatC, zab, Int.reduceAdd, Int.reduceSub, Int.reduceMul, Int.reduceNeg, Int.reduceToNat, Nat.reduceAdd]
  · subst t1
    subst t4
    have e : μ 58 k = zi (-137) := e
    refine ⟨.int (zi (-137)), .int (zi (-1)), ?_⟩
    rw [B_X7_reckon_6]
    simp (disch := omega) only [e800, e5, zrw_s, zrw_n, e, zq137, zq138, hx1, zup_zrw, B_X7_reckon_168, zbi_some, zbl_some, zbv_some, zbi_none, zbl_none, zbv_none, zbi_ite, zbl_ite, zbv_ite, zbZ, zbO, zc_lt, zc_le, zc_ge, zc_gt, zc_eq, zk0, zk1, zk2, zk3, zk4, zk5, zk6, zk7, zk8, zk9, zk10, zk11, zk12, zk14, zk15, zk16, zk17, zk19, zk20, zk21, zk24, zk25, zk30, zk32, zk36, zk40, zk45, zk50, zk64, zk97, zk99, zk100, zk102, zk122, zk128, zk255, zk800, zk801, zk900, zk999, zk1000, zk1997, zk9999, zk10000, zk100000, zk99999, zk9999999, zk999999999, zk2147483647, zlc0, zlc1, zlc2, zlc3, zlc4, zlc23, zlc99, zlc100, zlc9999999, zlc999999999999, zlc1073741824, zi_neg, zi_add, zi_sub, zi_mul, zl_neg, zl_add, zl_sub, zl_mul, zi_toInt, zi_nat, zi_le, zi_lt, zi_eq, zl_le, zl_lt, zl_eq, zl_toInt, zl_of32, zi_of64, zi_div, zl_div, zmodI, ↓reduceIte, zTle, zFle, zTlt, zFlt, zTeq, zFeq, if_true, if_false, and_self, and_true, true_and, and_false, false_and, or_self, or_true, true_or, or_false, false_or, not_true_eq_false, not_false_eq_true, zcastA, zcastL, znatC, zab, Int.reduceAdd, Int.reduceSub, Int.reduceMul, Int.reduceNeg, Int.reduceToNat, Nat.reduceAdd]
  · have hj : (h' : Int) = (h : Int) + -1 := by omega
    rw [opC_0 a (by omega)] at e
    have oc := opC_r2 t1
    have J := F_joined (d + 1) len (zrw μ 66 f) ν o (f (h - 2)) (f (h - 1)) (by omega) (fun q => by omega) (fun q => ⟨(iv (h - 2) (by omega)).2 t4, (iv (h - 1) (by omega)).2 t3⟩)
    refine ⟨.int (zi (opC o 0)), .int (zi (-(opC o 0) - 138)), ?_⟩
    rw [B_X7_reckon_6, hj]
    simp (disch := omega) only [e800, e5, zrw_s, zrw_n, e, zq137, zq138, F_within, B_X7_reckon_91, B_X7_reckon_137, B_X7_reckon_148, hx3, hx4, J, B_X7_reckon_167, zup_zrw, B_X7_reckon_168, zbi_some, zbl_some, zbv_some, zbi_none, zbl_none, zbv_none, zbi_ite, zbl_ite, zbv_ite, zbZ, zbO, zc_lt, zc_le, zc_ge, zc_gt, zc_eq, zk0, zk1, zk2, zk3, zk4, zk5, zk6, zk7, zk8, zk9, zk10, zk11, zk12, zk14, zk15, zk16, zk17, zk19, zk20, zk21, zk24, zk25, zk30, zk32, zk36, zk40, zk45, zk50, zk64, zk97, zk99, zk100, zk102, zk122, zk128, zk255, zk800, zk801, zk900, zk999, zk1000, zk1997, zk9999, zk10000, zk100000, zk99999, zk9999999, zk999999999, zk2147483647, zlc0, zlc1, zlc2, zlc3, zlc4, zlc23, zlc99, zlc100, zlc9999999, zlc999999999999, zlc1073741824, zi_neg, zi_add, zi_sub, zi_mul, zl_neg, zl_add, zl_sub, zl_mul, zi_toInt, zi_nat, zi_le, zi_lt, zi_eq, zl_le, zl_lt, zl_eq, zl_toInt, zl_of32, zi_of64, zi_div, zl_div, zmodI, ↓reduceIte, zTle, zFle, zTlt, zFlt, zTeq, zFeq, if_true, if_false, and_self, and_true, true_and, and_false, false_and, or_self, or_true, true_or, or_false, false_or, not_true_eq_false, not_false_eq_true, zcastA, zcastL, znatC, zab, Int.reduceAdd, Int.reduceSub, Int.reduceMul, Int.reduceNeg, Int.reduceToNat, Nat.reduceAdd]

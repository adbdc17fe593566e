/-! RULES: one step of a reckoning, the model's; a reckoning -/
theorem rk_m (d len : Nat) (μ : zMu) (ν : zNu) (fr to hd : Int) (k h h' : Nat) (T T' : Nat → Nat) (o a : Int) (f : Nat → Int32) (hhd : 0 ≤ hd ∧ hd ≤ 1) (hfr : 0 ≤ fr ∧ fr ≤ 800) (hto : (k : Int) < to ∧ to ≤ 800) (e67 : μ 92 67 = zi hd) (e1 : μ 143 (800 * hd + (k : Int)).toNat = zi o) (e2 : μ 144 (800 * hd + (k : Int)).toNat = zi a) (t : Tst o a h T h' T') (iv : Iv h T f) : zE zc_X12_comesTo (zF zT0 (d + 2)) 14 [.ref 92, .int (zi fr), .int (zi to), .int (zi (h : Int)), .int (zi (800 * hd + (k : Int)))] [] (zm len (zrw μ 147 f) ν) = zE zc_X12_comesTo (zF zT0 (d + 2)) 14 [.ref 92, .int (zi fr), .int (zi to), .int (zi (h' : Int)), .int (zi (800 * hd + (k : Int) + 1))] [] (zm len (zrw μ 147 (fS o a h (μ 146) f)) ν) := by
  have hx1 : ((h : Int) - 1).toNat = h - 1 := by omega
  have hx2 : ((h : Int) - 1 - 1).toNat = h - 2 := by omega
  have z800 : (800 : Int32) = zi 800 := rfl
  have z9 : (9 : Int32) = zi 9 := rfl
  rw [B_X12_comesTo_14]
  unfold fS
  rcases t with ⟨t1, t2, t3, t4, t5, t6⟩ | ⟨t1, t2, t3, t4, t5, t6⟩ | ⟨t1, t2, t3, t4, t5, t6⟩ | ⟨t1, t2, t3, t4, t5⟩ | ⟨t1, t2, t3, t4, t5, t6, t7⟩
  · subst t1
    subst t4
    simp (disch := omega) only [z800, z9, zrw_s, zrw_n, e67, e1, e2, B_X12_comesTo_50, B_X12_comesTo_87, zup_zrw, B_X12_comesTo_165, zbi_some, zbl_some, zbv_some, zbi_none, zbl_none, zbv_none, zbi_ite, zbl_ite, zbv_ite, zbZ, zbO, zc_lt, zc_le, zc_ge, zc_gt, zc_eq, zk0, zk1, zk2, zk3, zk4, zk5, zk6, zk7, zk8, zk9, zk10, zk11, zk12, zk14, zk15, zk16, zk17, zk19, zk20, zk21, zk24, zk25, zk30, zk32, zk36, zk40, zk45, zk50, zk64, zk97, zk99, zk100, zk102, zk122, zk128, zk255, zk800, zk801, zk900, zk999, zk1000, zk1997, zk9999, zk10000, zk100000, zk99999, zk9999999, zk999999999, zk2147483647, zlc0, zlc1, zlc2, zlc3, zlc4, zlc23, zlc99, zlc100, zlc9999999, zlc999999999999, zlc1073741824, zi_neg, zi_add, zi_sub, zi_mul, zl_neg, zl_add, zl_sub, zl_mul, zi_toInt, zi_nat, zi_le, zi_lt, zi_eq, zl_le, zl_lt, zl_eq, zl_toInt, zl_of32, zi_of64, zi_div, zl_div, zmodI, ↓reduceIte, zTle, zFle, zTlt, zFlt, zTeq, zFeq, if_true, if_false, and_self, and_true, true_and, and_false, false_and, or_self, or_true, true_or, or_false, false_or, not_true_eq_false, not_false_eq_true, zcastA, zcastL, znatC, zab, Int.reduceAdd, Int.reduceSub, Int.reduceMul, Int.reduceNeg, Int.reduceToNat, Nat.reduceAdd]
  · subst t1
    subst t4
    simp (disch := omega) only [z800, z9, zrw_s, zrw_n, e67, e1, e2, B_X12_comesTo_50, B_X12_comesTo_87, zup_zrw, B_X12_comesTo_165, zbi_some, zbl_some, zbv_some, zbi_none, zbl_none, zbv_none, zbi_ite, zbl_ite, zbv_ite, zbZ, zbO, zc_lt, zc_le, zc_ge, zc_gt, zc_eq, zk0, zk1, zk2, zk3, zk4, zk5, zk6, zk7, zk8, zk9, zk10, zk11, zk12, zk14, zk15, zk16, zk17, zk19, zk20, zk21, zk24, zk25, zk30, zk32, zk36, zk40, zk45, zk50, zk64, zk97, zk99, zk100, zk102, zk122, zk128, zk255, zk800, zk801, zk900, zk999, zk1000, zk1997, zk9999, zk10000, zk100000, zk99999, zk9999999, zk999999999, zk2147483647, zlc0, zlc1, zlc2, zlc3, zlc4, zlc23, zlc99, zlc100, zlc9999999, zlc999999999999, zlc1073741824, zi_neg, zi_add, zi_sub, zi_mul, zl_neg, zl_add, zl_sub, zl_mul, zi_toInt, zi_nat, zi_le, zi_lt, zi_eq, zl_le, zl_lt, zl_eq, zl_toInt, zl_of32, zi_of64, zi_div, zl_div, zmodI, ↓reduceIte, zTle, zFle, zTlt, zFlt, zTeq, zFeq, if_true, if_false, and_self, and_true, true_and, and_false, false_and, or_self, or_true, true_or, or_false, false_or, not_true_eq_false, not_false_eq_true, zcastA, zcastL, znatC, zab, Int.reduceAdd, Int.reduceSub, Int.reduceMul, Int.reduceNeg, Int.reduceToNat, Nat.reduceAdd]
  · have hj : (h' : Int) = (h : Int) - 1 := by omega
    have J := F_twoOf (d + 1) len (zrw μ 147 f) ν o (f (h - 2)) (f (h - 1)) (by omega) (fun q => (iv (h - 1) (by omega)).1 (t4 q))
    rw [hj]
    simp (disch := omega) only [z800, z9, zrw_s, zrw_n, e67, e1, e2, hx1, hx2, J, B_X12_comesTo_164, zup_zrw, B_X12_comesTo_165, zbi_some, zbl_some, zbv_some, zbi_none, zbl_none, zbv_none, zbi_ite, zbl_ite, zbv_ite, zbZ, zbO, zc_lt, zc_le, zc_ge, zc_gt, zc_eq, zk0, zk1, zk2, zk3, zk4, zk5, zk6, zk7, zk8, zk9, zk10, zk11, zk12, zk14, zk15, zk16, zk17, zk19, zk20, zk21, zk24, zk25, zk30, zk32, zk36, zk40, zk45, zk50, zk64, zk97, zk99, zk100, zk102, zk122, zk128, zk255, zk800, zk801, zk900, zk999, zk1000, zk1997, zk9999, zk10000, zk100000, zk99999, zk9999999, zk999999999, zk2147483647, zlc0, zlc1, zlc2, zlc3, zlc4, zlc23, zlc99, zlc100, zlc9999999, zlc999999999999, zlc1073741824, zi_neg, zi_add, zi_sub, zi_mul, zl_neg, zl_add, zl_sub, zl_mul, zi_toInt, zi_nat, zi_le, zi_lt, zi_eq, zl_le, zl_lt, zl_eq, zl_toInt, zl_of32, zi_of64, zi_div, zl_div, zmodI, ↓reduceIte, zTle, zFle, zTlt, zFlt, zTeq, zFeq, if_true, if_false, and_self, and_true, true_and, and_false, false_and, or_self, or_true, true_or, or_false, false_or, not_true_eq_false, not_false_eq_true, zcastA, zcastL, znatC, zab, Int.reduceAdd, Int.reduceSub, Int.reduceMul, Int.reduceNeg, Int.reduceToNat, Nat.reduceAdd]
  · subst t1
    subst t4
    simp (disch := omega) only [z800, z9, zrw_s, zrw_n, e67, e1, e2, hx1, zup_zrw, B_X12_comesTo_165, zbi_some, zbl_some, zbv_some, zbi_none, zbl_none, zbv_none, zbi_ite, zbl_ite, zbv_ite, zbZ, zbO, zc_lt, zc_le, zc_ge, zc_gt, zc_eq, zk0, zk1, zk2, zk3, zk4, zk5, zk6, zk7, zk8, zk9, zk10, zk11, zk12, zk14, zk15, zk16, zk17, zk19, zk20, zk21, zk24, zk25, zk30, zk32, zk36, zk40, zk45, zk50, zk64, zk97, zk99, zk100, zk102, zk122, zk128, zk255, zk800, zk801, zk900, zk999, zk1000, zk1997, zk9999, zk10000, zk100000, zk99999, zk9999999, zk999999999, zk2147483647, zlc0, zlc1, zlc2, zlc3, zlc4, zlc23, zlc99, zlc100, zlc9999999, zlc999999999999, zlc1073741824, zi_neg, zi_add, zi_sub, zi_mul, zl_neg, zl_add, zl_sub, zl_mul, zi_toInt, zi_nat, zi_le, zi_lt, zi_eq, zl_le, zl_lt, zl_eq, zl_toInt, zl_of32, zi_of64, zi_div, zl_div, zmodI, ↓reduceIte, zTle, zFle, zTlt, zFlt, zTeq, zFeq, if_true, if_false, and_self, and_true, true_and, and_false, false_and, or_self, or_true, true_or, or_false, false_or, not_true_eq_false, not_false_eq_true, zcastA, zcastL, znatC, zab, Int.reduceAdd, Int.reduceSub, Int.reduceMul, Int.reduceNeg, Int.reduceToNat, Nat.reduceAdd]
  · have hj : (h' : Int) = (h : Int) - 1 := by omega
    have J := F_twoOf (d + 1) len (zrw μ 147 f) ν o (f (h - 2)) (f (h - 1)) (by omega) (fun q => by omega)
    rw [hj]
    simp (disch := omega) only [z800, z9, zrw_s, zrw_n, e67, e1, e2, hx1, hx2, J, B_X12_comesTo_164, zup_zrw, B_X12_comesTo_165, zbi_some, zbl_some, zbv_some, zbi_none, zbl_none, zbv_none, zbi_ite, zbl_ite, zbv_ite, zbZ, zbO, zc_lt, zc_le, zc_ge, zc_gt, zc_eq, zk0, zk1, zk2, zk3, zk4, zk5, zk6, zk7, zk8, zk9, zk10, zk11, zk12, zk14, zk15, zk16, zk17, zk19, zk20, zk21, zk24, zk25, zk30, zk32, zk36, zk40, zk45, zk50, zk64, zk97, zk99, zk100, zk102, zk122, zk128, zk255, zk800, zk801, zk900, zk999, zk1000, zk1997, zk9999, zk10000, zk100000, zk99999, zk9999999, zk999999999, zk2147483647, zlc0, zlc1, zlc2, zlc3, zlc4, zlc23, zlc99, zlc100, zlc9999999, zlc999999999999, zlc1073741824, zi_neg, zi_add, zi_sub, zi_mul, zl_neg, zl_add, zl_sub, zl_mul, zi_toInt, zi_nat, zi_le, zi_lt, zi_eq, zl_le, zl_lt, zl_eq, zl_toInt, zl_of32, zi_of64, zi_div, zl_div, zmodI, ↓reduceIte, zTle, zFle, zTlt, zFlt, zTeq, zFeq, if_true, if_false, and_self, and_true, true_and, and_false, false_and, or_self, or_true, true_or, or_false, false_or, not_true_eq_false, not_false_eq_true, zcastA, zcastL, znatC, zab, Int.reduceAdd, Int.reduceSub, Int.reduceMul, Int.reduceNeg, Int.reduceToNat, Nat.reduceAdd]
theorem opV_b {o : Int} {a b : Int32} (h : 6 ≤ o ∧ o ≠ 9) (h10 : 10 ≤ o → (a = zi 0 ∨ a = zi 1) ∧ (b = zi 0 ∨ b = zi 1)) : opV o a b = zi 0 ∨ opV o a b = zi 1 := by
  unfold opV
  simp only [if_neg (show ¬o = 2 by omega), if_neg (show ¬o = 3 by omega), if_neg (show ¬o = 4 by omega), if_neg (show ¬o = 5 by omega)]
  by_cases c6 : o = 6
  · rw [if_pos c6]
    split
    · exact Or.inl rfl
    · exact Or.inr rfl
  rw [if_neg c6]
  by_cases c7 : o = 7
  · rw [if_pos c7]
    split
    · exact Or.inr rfl
    · exact Or.inl rfl
  rw [if_neg c7]
  by_cases c8 : o = 8
  · rw [if_pos c8]
    split
    · exact Or.inl rfl
    · exact Or.inr rfl
  rw [if_neg c8]
  by_cases c10 : o = 10
  · rw [if_pos c10]
    obtain ⟨p, q⟩ := h10 (by omega)
    rcases p with p | p <;> rcases q with q | q <;> subst p <;> subst q <;> decide
  · rw [if_neg c10]
    split
    · exact Or.inl rfl
    · exact Or.inr rfl
theorem Iv_step {o a : Int} {h h' : Nat} {T T' : Nat → Nat} {q f : Nat → Int32} (t : Tst o a h T h' T') (iv : Iv h T f) : Iv h' T' (fS o a h q f) := by
  unfold fS
  intro i hi
  rcases t with ⟨t1, t2, t3, t4, t5, t6⟩ | ⟨t1, t2, t3, t4, t5, t6⟩ | ⟨t1, t2, t3, t4, t5, t6⟩ | ⟨t1, t2, t3, t4, t5⟩ | ⟨t1, t2, t3, t4, t5, t6, t7⟩
  · rw [if_pos t1]
    by_cases z : i = h
    · subst z
      rw [upd_eq]
      refine ⟨fun w => ?_, fun w => by omega⟩
      have : a ≠ 0 := by omega
      intro q
      rw [zi_eq (by omega)] at q
      omega
    · rw [upd_ne _ _ z, t5 i (by omega)]
      exact iv i (by omega)
  · rw [if_neg (by omega), if_pos t1]
    by_cases z : i = h
    · subst z
      exact ⟨fun w => by omega, fun w => by omega⟩
    · rw [upd_ne _ _ z, t5 i (by omega)]
      exact iv i (by omega)
  · rw [if_neg (by omega), if_neg (by omega), if_neg (by omega)]
    by_cases z : i = h - 2
    · subst z
      rw [upd_eq]
      refine ⟨fun w => by omega, fun w => opV_b (by omega) (fun q => by omega)⟩
    · rw [upd_ne _ _ z, t5 i (by omega)]
      exact iv i (by omega)
  · rw [if_neg (by omega), if_neg (by omega), if_pos t1]
    subst t4
    by_cases z : i = h' - 1
    · subst z
      rw [upd_eq, t5 _ (by omega)]
      refine ⟨fun w => by omega, fun _ => ?_⟩
      rcases (iv (h' - 1) (by omega)).2 t3 with w | w
      · rw [w]
        exact Or.inr rfl
      · rw [w]
        exact Or.inl rfl
    · rw [upd_ne _ _ z, t5 i (by omega)]
      exact iv i (by omega)
  · rw [if_neg (by omega), if_neg (by omega), if_neg (by omega)]
    by_cases z : i = h - 2
    · subst z
      rw [upd_eq]
      refine ⟨fun w => by omega, fun w => opV_b (by omega) (fun q => ⟨(iv (h - 2) (by omega)).2 t4, (iv (h - 1) (by omega)).2 t3⟩)⟩
    · rw [upd_ne _ _ z, t6 i (by omega)]
      exact iv i (by omega)
theorem fS_ag {o a : Int} {h h' : Nat} {T T' : Nat → Nat} {q q' f f' : Nat → Int32} (t : Tst o a h T h' T') (hq : ∀ j, j < 5 → q j = q' j) (e : ∀ i, i < h → f i = f' i) : ∀ i, i < h' → fS o a h q f i = fS o a h q' f' i := by
  unfold fS
  intro i hi
  rcases t with ⟨t1, t2, t3, t4, t5, t6⟩ | ⟨t1, t2, t3, t4, t5, t6⟩ | ⟨t1, t2, t3, t4, t5, t6⟩ | ⟨t1, t2, t3, t4, t5⟩ | ⟨t1, t2, t3, t4, t5, t6, t7⟩
  · rw [if_pos t1, if_pos t1]
    by_cases z : i = h
    · rw [z, upd_eq, upd_eq]
    · rw [upd_ne _ _ z, upd_ne _ _ z, e i (by omega)]
  · rw [if_neg (by omega), if_pos t1, if_neg (by omega), if_pos t1, hq _ (by omega)]
    by_cases z : i = h
    · rw [z, upd_eq, upd_eq]
    · rw [upd_ne _ _ z, upd_ne _ _ z, e i (by omega)]
  · rw [if_neg (by omega), if_neg (by omega), if_neg (by omega), if_neg (by omega), if_neg (by omega), if_neg (by omega), e (h - 1) (by omega), e (h - 2) (by omega)]
    by_cases z : i = h - 2
    · rw [z, upd_eq, upd_eq]
    · rw [upd_ne _ _ z, upd_ne _ _ z, e i (by omega)]
  · rw [if_neg (by omega), if_neg (by omega), if_pos t1, if_neg (by omega), if_neg (by omega), if_pos t1, e (h - 1) (by omega)]
    by_cases z : i = h - 1
    · rw [z, upd_eq, upd_eq]
    · rw [upd_ne _ _ z, upd_ne _ _ z, e i (by omega)]
  · rw [if_neg (by omega), if_neg (by omega), if_neg (by omega), if_neg (by omega), if_neg (by omega), if_neg (by omega), e (h - 1) (by omega), e (h - 2) (by omega)]
    by_cases z : i = h - 2
    · rw [z, upd_eq, upd_eq]
    · rw [upd_ne _ _ z, upd_ne _ _ z, e i (by omega)]

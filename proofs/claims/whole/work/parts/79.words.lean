/-! TOKENS: words, both sides -/
section WORDS
variable (d len : Nat) (μ : zMu) (ν : zNu) (g : Nat → Int) (hg : ∀ i, 0 ≤ g i ∧ g i ≤ 255)
theorem st_loop (e7 : ∀ i, μ 7 i = zi (g i)) (hg : ∀ i, 0 ≤ g i ∧ g i ≤ 255) (p fr n : Nat) (hp : p + n ≤ 800) (hf : fr + n ≤ 67) : ∀ m j : Nat, j + m = n → ∃ b : Int, (b = 0 ∨ b = 1) ∧ (b = 1 ↔ ∀ i, j ≤ i → i < n → g (p + i) = wch (fr + i)) ∧ zE zc_X10_standsAt (zF zT0 (d + 4)) 3 [.ref 6, .int (zi (p : Int)), .int (zi (fr : Int)), .int (zi (n : Int)), .int (zi (j : Int))] [] (zm len μ ν) = some (.int (zi b), zm len μ ν) := by
  intro m
  induction m with
  | zero =>
    intro j hj
    refine ⟨1, Or.inr rfl, ⟨fun _ i h1 h2 => by omega, fun _ => rfl⟩, ?_⟩
    rw [B_X10_standsAt_3]
    simp (disch := omega) only [zbi_some, zbl_some, zbv_some, zbi_none, zbl_none, zbv_none, zbi_ite, zbl_ite, zbv_ite, zbZ, zbO, zc_lt, zc_le, zc_ge, zc_gt, zc_eq, zk0, zk1, zk2, zk3, zk4, zk5, zk6, zk7, zk8, zk9, zk10, zk11, zk12, zk14, zk15, zk16, zk17, zk19, zk20, zk21, zk24, zk25, zk30, zk32, zk36, zk40, zk45, zk50, zk64, zk97, zk99, zk100, zk102, zk122, zk128, zk255, zk800, zk801, zk900, zk999, zk1000, zk1997, zk9999, zk10000, zk100000, zk99999, zk9999999, zk999999999, zk2147483647, zlc0, zlc1, zlc2, zlc3, zlc4, zlc23, zlc99, zlc100, zlc9999999, zlc999999999999, zlc1073741824, zi_neg, zi_add, zi_sub, zi_mul, zl_neg, zl_add, zl_sub, zl_mul, zi_toInt, zi_nat, zi_le, zi_lt, zi_eq, zl_le, zl_lt, zl_eq, zl_toInt, zl_of32, zi_of64, zi_div, zl_div, zmodI, ↓reduceIte, zTle, zFle, zTlt, zFlt, zTeq, zFeq, if_true, if_false, and_self, and_true, true_and, and_false, false_and, or_self, or_true, true_or, or_false, false_or, not_true_eq_false, not_false_eq_true, zcastA, zcastL, znatC, zab, Int.reduceAdd, Int.reduceSub, Int.reduceMul, Int.reduceNeg, Int.reduceToNat, Nat.reduceAdd]
  | succ m ih =>
    intro j hj
    have hgp := hg (p + j)
    have hw := wch_r (fr + j) (by omega)
    have ix : ((p : Int) + (j : Int)).toNat = p + j := by omega
    have C := F_wchar d len μ ν (i := fr + j) (by omega)
    rw [zcastA] at C
    by_cases q : g (p + j) = wch (fr + j)
    · obtain ⟨b, b1, b2, b3⟩ := ih (j + 1) (by omega)
      refine ⟨b, b1, b2.trans ⟨fun w i h1 h2 => ?_, fun w i h1 h2 => w i (by omega) h2⟩, ?_⟩
      · by_cases z : i = j
        · rw [z]; exact q
        · exact w i (by omega) h2
      · rw [B_X10_standsAt_3]
        simp (disch := omega) only [C, e7, ix, B_X10_standsAt_27, q, zbi_some, zbl_some, zbv_some, zbi_none, zbl_none, zbv_none, zbi_ite, zbl_ite, zbv_ite, zbZ, zbO, zc_lt, zc_le, zc_ge, zc_gt, zc_eq, zk0, zk1, zk2, zk3, zk4, zk5, zk6, zk7, zk8, zk9, zk10, zk11, zk12, zk14, zk15, zk16, zk17, zk19, zk20, zk21, zk24, zk25, zk30, zk32, zk36, zk40, zk45, zk50, zk64, zk97, zk99, zk100, zk102, zk122, zk128, zk255, zk800, zk801, zk900, zk999, zk1000, zk1997, zk9999, zk10000, zk100000, zk99999, zk9999999, zk999999999, zk2147483647, zlc0, zlc1, zlc2, zlc3, zlc4, zlc23, zlc99, zlc100, zlc9999999, zlc999999999999, zlc1073741824, zi_neg, zi_add, zi_sub, zi_mul, zl_neg, zl_add, zl_sub, zl_mul, zi_toInt, zi_nat, zi_le, zi_lt, zi_eq, zl_le, zl_lt, zl_eq, zl_toInt, zl_of32, zi_of64, zi_div, zl_div, zmodI, ↓reduceIte, zTle, zFle, zTlt, zFlt, zTeq, zFeq, if_true, if_false, and_self, and_true, true_and, and_false, false_and, or_self, or_true, true_or, or_false, false_or, not_true_eq_false, not_false_eq_true, zcastA, zcastL, znatC, zab, Int.reduceAdd, Int.reduceSub, Int.reduceMul, Int.reduceNeg, Int.reduceToNat, Nat.reduceAdd]
        exact b3
    · refine ⟨0, Or.inl rfl, ⟨fun w => by omega, fun w => absurd (w j (by omega) (by omega)) q⟩, ?_⟩
      rw [B_X10_standsAt_3]
      simp (disch := omega) only [C, e7, ix, B_X10_standsAt_27, q, zbi_some, zbl_some, zbv_some, zbi_none, zbl_none, zbv_none, zbi_ite, zbl_ite, zbv_ite, zbZ, zbO, zc_lt, zc_le, zc_ge, zc_gt, zc_eq, zk0, zk1, zk2, zk3, zk4, zk5, zk6, zk7, zk8, zk9, zk10, zk11, zk12, zk14, zk15, zk16, zk17, zk19, zk20, zk21, zk24, zk25, zk30, zk32, zk36, zk40, zk45, zk50, zk64, zk97, zk99, zk100, zk102, zk122, zk128, zk255, zk800, zk801, zk900, zk999, zk1000, zk1997, zk9999, zk10000, zk100000, zk99999, zk9999999, zk999999999, zk2147483647, zlc0, zlc1, zlc2, zlc3, zlc4, zlc23, zlc99, zlc100, zlc9999999, zlc999999999999, zlc1073741824, zi_neg, zi_add, zi_sub, zi_mul, zl_neg, zl_add, zl_sub, zl_mul, zi_toInt, zi_nat, zi_le, zi_lt, zi_eq, zl_le, zl_lt, zl_eq, zl_toInt, zl_of32, zi_of64, zi_div, zl_div, zmodI, ↓reduceIte, zTle, zFle, zTlt, zFlt, zTeq, zFeq, if_true, if_false, and_self, and_true, true_and, and_false, false_and, or_self, or_true, true_or, or_false, false_or, not_true_eq_false, not_false_eq_true, zcastA, zcastL, znatC, zab, Int.reduceAdd, Int.reduceSub, Int.reduceMul, Int.reduceNeg, Int.reduceToNat, Nat.reduceAdd]
theorem F_stands (e7 : ∀ i, μ 7 i = zi (g i)) (hg : ∀ i, 0 ≤ g i ∧ g i ≤ 255) (p fr n : Nat) (hp : p + n ≤ 800) (hf : fr + n ≤ 67) : ∃ b : Int, (b = 0 ∨ b = 1) ∧ (b = 1 ↔ ∀ i, i < n → g (p + i) = wch (fr + i)) ∧ zF zT0 (d + 5) 126 [.ref 6, .int (zi (p : Int)), .int (zi (fr : Int)), .int (zi (n : Int))] (zm len μ ν) = some (.int (zi b), zm len μ ν) := by
  obtain ⟨b, b1, b2, b3⟩ := st_loop d len μ ν g e7 hg p fr n hp hf n 0 (by omega)
  refine ⟨b, b1, b2.trans ⟨fun w i h => w i (by omega) h, fun w i _ h => w i h⟩, ?_⟩
  rw [B_X10_standsAt]
  exact b3
/-- the word at p of n letters is the one that stands at k + 1 among the model's -/
def MT (g : Nat → Int) (p n k ln : Nat) : Prop := n = ln ∧ ∀ i, i < ln → g (p + i) = mch (k + 1 + i)
theorem cw_run (p n fr ln : Nat) (k : Int) (hf : fr + ln < 67) (hne : ∀ i, i < ln → wch (fr + i) ≠ 32) : zE zc_X10_wordAt (zF zT0 (d + 5)) 10 [.ref 6, .int (zi (p : Int)), .int (zi (n : Int)), .int (zi k), .int (zi (fr : Int)), .int (zi (fr : Int))] [] (zm len μ ν) = zE zc_X10_wordAt (zF zT0 (d + 5)) 10 [.ref 6, .int (zi (p : Int)), .int (zi (n : Int)), .int (zi k), .int (zi (fr : Int)), .int (zi ((fr : Int) + (ln : Int)))] [] (zm len μ ν) := by
  have L := zloop (f := fun j => zE zc_X10_wordAt (zF zT0 (d + 5)) 10 [.ref 6, .int (zi (p : Int)), .int (zi (n : Int)), .int (zi k), .int (zi (fr : Int)), .int (zi ((fr : Int) + (j : Int)))] [] (zm len μ ν)) (n := ln) (fun j hj => by
    show zE _ _ _ _ _ _ = zE _ _ _ _ _ _
    have C := F_wchar (d + 1) len μ ν (i := fr + j) (by omega)
    rw [zcastA] at C
    have hw := wch_r (fr + j) (by omega)
    have hn := hne j hj
    rw [B_X10_wordAt_10]
    simp (disch := omega) only [F_wlen, B_X10_wordAt_17, C, B_X10_wordAt_27, hn, B_X10_wordAt_63, zbi_some, zbl_some, zbv_some, zbi_none, zbl_none, zbv_none, zbi_ite, zbl_ite, zbv_ite, zbZ, zbO, zc_lt, zc_le, zc_ge, zc_gt, zc_eq, zk0, zk1, zk2, zk3, zk4, zk5, zk6, zk7, zk8, zk9, zk10, zk11, zk12, zk14, zk15, zk16, zk17, zk19, zk20, zk21, zk24, zk25, zk30, zk32, zk36, zk40, zk45, zk50, zk64, zk97, zk99, zk100, zk102, zk122, zk128, zk255, zk800, zk801, zk900, zk999, zk1000, zk1997, zk9999, zk10000, zk100000, zk99999, zk9999999, zk999999999, zk2147483647, zlc0, zlc1, zlc2, zlc3, zlc4, zlc23, zlc99, zlc100, zlc9999999, zlc999999999999, zlc1073741824, zi_neg, zi_add, zi_sub, zi_mul, zl_neg, zl_add, zl_sub, zl_mul, zi_toInt, zi_nat, zi_le, zi_lt, zi_eq, zl_le, zl_lt, zl_eq, zl_toInt, zl_of32, zi_of64, zi_div, zl_div, zmodI, ↓reduceIte, zTle, zFle, zTlt, zFlt, zTeq, zFeq, if_true, if_false, and_self, and_true, true_and, and_false, false_and, or_self, or_true, true_or, or_false, false_or, not_true_eq_false, not_false_eq_true, zcastA, zcastL, znatC, zab, Int.reduceAdd, Int.reduceSub, Int.reduceMul, Int.reduceNeg, Int.reduceToNat, Nat.reduceAdd]
    rw [show (fr : Int) + (j : Int) + 1 = (fr : Int) + ((j : Int) + 1) by omega])
  simp only [Int.natCast_zero, Int.add_zero] at L
  exact L
theorem cw_hit (e7 : ∀ i, μ 7 i = zi (g i)) (hg : ∀ i, 0 ≤ g i ∧ g i ≤ 255) (p n fr ln k' : Nat) (k : Int) (hp : p + n ≤ 800) (hf : fr + ln < 67) (hne : ∀ i, i < ln → wch (fr + i) ≠ 32) (hb : wch (fr + ln) = 32) (hm : ∀ i, i < ln → mch (k' + 1 + i) = wch (fr + i)) (h : MT g p n k' ln) : zE zc_X10_wordAt (zF zT0 (d + 5)) 10 [.ref 6, .int (zi (p : Int)), .int (zi (n : Int)), .int (zi k), .int (zi (fr : Int)), .int (zi (fr : Int))] [] (zm len μ ν) = some (.int (zi k), zm len μ ν) := by
  obtain ⟨h1, h2⟩ := h
  subst h1
  rw [cw_run d len μ ν p n fr n k hf hne, B_X10_wordAt_10]
  have C := F_wchar (d + 1) len μ ν (i := fr + n) (by omega)
  rw [zcastA, hb] at C
  obtain ⟨b, b1, b2, b3⟩ := F_stands d len μ ν g e7 hg p fr n hp (by omega)
  have : b = 1 := b2.mpr (fun i hi => by rw [h2 i hi, hm i hi])
  subst this
  have w : (fr : Int) + (n : Int) - (fr : Int) = (n : Int) := by omega
  simp (disch := omega) only [F_wlen, B_X10_wordAt_17, C, B_X10_wordAt_27, w, b3, B_X10_wordAt_49, zbi_some, zbl_some, zbv_some, zbi_none, zbl_none, zbv_none, zbi_ite, zbl_ite, zbv_ite, zbZ, zbO, zc_lt, zc_le, zc_ge, zc_gt, zc_eq, zk0, zk1, zk2, zk3, zk4, zk5, zk6, zk7, zk8, zk9, zk10, zk11, zk12, zk14, zk15, zk16, zk17, zk19, zk20, zk21, zk24, zk25, zk30, zk32, zk36, zk40, zk45, zk50, zk64, zk97, zk99, zk100, zk102, zk122, zk128, zk255, zk800, zk801, zk900, zk999, zk1000, zk1997, zk9999, zk10000, zk100000, zk99999, zk9999999, zk999999999, zk2147483647, zlc0, zlc1, zlc2, zlc3, zlc4, zlc23, zlc99, zlc100, zlc9999999, zlc999999999999, zlc1073741824, zi_neg, zi_add, zi_sub, zi_mul, zl_neg, zl_add, zl_sub, zl_mul, zi_toInt, zi_nat, zi_le, zi_lt, zi_eq, zl_le, zl_lt, zl_eq, zl_toInt, zl_of32, zi_of64, zi_div, zl_div, zmodI, ↓reduceIte, zTle, zFle, zTlt, zFlt, zTeq, zFeq, if_true, if_false, and_self, and_true, true_and, and_false, false_and, or_self, or_true, true_or, or_false, false_or, not_true_eq_false, not_false_eq_true, zcastA, zcastL, znatC, zab, Int.reduceAdd, Int.reduceSub, Int.reduceMul, Int.reduceNeg, Int.reduceToNat, Nat.reduceAdd]
theorem cw_miss (e7 : ∀ i, μ 7 i = zi (g i)) (hg : ∀ i, 0 ≤ g i ∧ g i ≤ 255) (p n fr ln k' : Nat) (k : Int) (hp : p + n ≤ 800) (hf : fr + ln < 67) (hne : ∀ i, i < ln → wch (fr + i) ≠ 32) (hb : wch (fr + ln) = 32) (hm : ∀ i, i < ln → mch (k' + 1 + i) = wch (fr + i)) (h : ¬ MT g p n k' ln) : zE zc_X10_wordAt (zF zT0 (d + 5)) 10 [.ref 6, .int (zi (p : Int)), .int (zi (n : Int)), .int (zi k), .int (zi (fr : Int)), .int (zi (fr : Int))] [] (zm len μ ν) = zE zc_X10_wordAt (zF zT0 (d + 5)) 10 [.ref 6, .int (zi (p : Int)), .int (zi (n : Int)), .int (zi (k + 1)), .int (zi ((fr : Int) + (ln : Int) + 1)), .int (zi ((fr : Int) + (ln : Int) + 1))] [] (zm len μ ν) := by
  rw [cw_run d len μ ν p n fr ln k hf hne, B_X10_wordAt_10]
  have C := F_wchar (d + 1) len μ ν (i := fr + ln) (by omega)
  rw [zcastA, hb] at C
  have w : (fr : Int) + (ln : Int) - (fr : Int) = (ln : Int) := by omega
  by_cases q : n = ln
  · subst q
    obtain ⟨b, b1, b2, b3⟩ := F_stands d len μ ν g e7 hg p fr n hp (by omega)
    have : b = 0 := by
      rcases b1 with z | z
      · exact z
      · exact absurd ⟨rfl, fun i hi => by rw [b2.mp z i hi, hm i hi]⟩ h
    subst this
    simp (disch := omega) only [F_wlen, B_X10_wordAt_17, C, B_X10_wordAt_27, w, b3, B_X10_wordAt_49, B_X10_wordAt_54, B_X10_wordAt_63, zbi_some, zbl_some, zbv_some, zbi_none, zbl_none, zbv_none, zbi_ite, zbl_ite, zbv_ite, zbZ, zbO, zc_lt, zc_le, zc_ge, zc_gt, zc_eq, zk0, zk1, zk2, zk3, zk4, zk5, zk6, zk7, zk8, zk9, zk10, zk11, zk12, zk14, zk15, zk16, zk17, zk19, zk20, zk21, zk24, zk25, zk30, zk32, zk36, zk40, zk45, zk50, zk64, zk97, zk99, zk100, zk102, zk122, zk128, zk255, zk800, zk801, zk900, zk999, zk1000, zk1997, zk9999, zk10000, zk100000, zk99999, zk9999999, zk999999999, zk2147483647, zlc0, zlc1, zlc2, zlc3, zlc4, zlc23, zlc99, zlc100, zlc9999999, zlc999999999999, zlc1073741824, zi_neg, zi_add, zi_sub, zi_mul, zl_neg, zl_add, zl_sub, zl_mul, zi_toInt, zi_nat, zi_le, zi_lt, zi_eq, zl_le, zl_lt, zl_eq, zl_toInt, zl_of32, zi_of64, zi_div, zl_div, zmodI, ↓reduceIte, zTle, zFle, zTlt, zFlt, zTeq, zFeq, if_true, if_false, and_self, and_true, true_and, and_false, false_and, or_self, or_true, true_or, or_false, false_or, not_true_eq_false, not_false_eq_true, zcastA, zcastL, znatC, zab, Int.reduceAdd, Int.reduceSub, Int.reduceMul, Int.reduceNeg, Int.reduceToNat, Nat.reduceAdd]
  · have q' : ¬ (ln : Int) = (n : Int) := by omega
    simp (disch := omega) only [F_wlen, B_X10_wordAt_17, C, B_X10_wordAt_27, w, q', B_X10_wordAt_54, B_X10_wordAt_63, zbi_some, zbl_some, zbv_some, zbi_none, zbl_none, zbv_none, zbi_ite, zbl_ite, zbv_ite, zbZ, zbO, zc_lt, zc_le, zc_ge, zc_gt, zc_eq, zk0, zk1, zk2, zk3, zk4, zk5, zk6, zk7, zk8, zk9, zk10, zk11, zk12, zk14, zk15, zk16, zk17, zk19, zk20, zk21, zk24, zk25, zk30, zk32, zk36, zk40, zk45, zk50, zk64, zk97, zk99, zk100, zk102, zk122, zk128, zk255, zk800, zk801, zk900, zk999, zk1000, zk1997, zk9999, zk10000, zk100000, zk99999, zk9999999, zk999999999, zk2147483647, zlc0, zlc1, zlc2, zlc3, zlc4, zlc23, zlc99, zlc100, zlc9999999, zlc999999999999, zlc1073741824, zi_neg, zi_add, zi_sub, zi_mul, zl_neg, zl_add, zl_sub, zl_mul, zi_toInt, zi_nat, zi_le, zi_lt, zi_eq, zl_le, zl_lt, zl_eq, zl_toInt, zl_of32, zi_of64, zi_div, zl_div, zmodI, ↓reduceIte, zTle, zFle, zTlt, zFlt, zTeq, zFeq, if_true, if_false, and_self, and_true, true_and, and_false, false_and, or_self, or_true, true_or, or_false, false_or, not_true_eq_false, not_false_eq_true, zcastA, zcastL, znatC, zab, Int.reduceAdd, Int.reduceSub, Int.reduceMul, Int.reduceNeg, Int.reduceToNat, Nat.reduceAdd]
theorem cw_end (p n : Nat) (k : Int) : zE zc_X10_wordAt (zF zT0 (d + 5)) 10 [.ref 6, .int (zi (p : Int)), .int (zi (n : Int)), .int (zi k), .int (zi 67), .int (zi 67)] [] (zm len μ ν) = some (.int (zi 1), zm len μ ν) := by
  rw [B_X10_wordAt_10]
  simp (disch := omega) only [F_wlen, B_X10_wordAt_17, zbi_some, zbl_some, zbv_some, zbi_none, zbl_none, zbv_none, zbi_ite, zbl_ite, zbv_ite, zbZ, zbO, zc_lt, zc_le, zc_ge, zc_gt, zc_eq, zk0, zk1, zk2, zk3, zk4, zk5, zk6, zk7, zk8, zk9, zk10, zk11, zk12, zk14, zk15, zk16, zk17, zk19, zk20, zk21, zk24, zk25, zk30, zk32, zk36, zk40, zk45, zk50, zk64, zk97, zk99, zk100, zk102, zk122, zk128, zk255, zk800, zk801, zk900, zk999, zk1000, zk1997, zk9999, zk10000, zk100000, zk99999, zk9999999, zk999999999, zk2147483647, zlc0, zlc1, zlc2, zlc3, zlc4, zlc23, zlc99, zlc100, zlc9999999, zlc999999999999, zlc1073741824, zi_neg, zi_add, zi_sub, zi_mul, zl_neg, zl_add, zl_sub, zl_mul, zi_toInt, zi_nat, zi_le, zi_lt, zi_eq, zl_le, zl_lt, zl_eq, zl_toInt, zl_of32, zi_of64, zi_div, zl_div, zmodI, ↓reduceIte, zTle, zFle, zTlt, zFlt, zTeq, zFeq, if_true, if_false, and_self, and_true, true_and, and_false, false_and, or_self, or_true, true_or, or_false, false_or, not_true_eq_false, not_false_eq_true, zcastA, zcastL, znatC, zab, Int.reduceAdd, Int.reduceSub, Int.reduceMul, Int.reduceNeg, Int.reduceToNat, Nat.reduceAdd]
theorem mw_run (call : zC) (e97 : ∀ i : Nat, i < 80 → μ 97 i = zi (mch i)) (p e k ln : Nat) (num : Int) (hk : k + 1 + ln < 80) (hne : ∀ i, i < ln → mch (k + 1 + i) ≠ 32) (hb : mch (k + 1 + ln) = 32) (v : Int32) : zE zc_X12_wordAt call 93 [.ref 92, .int (zi (p : Int)), .int (zi (e : Int)), .int (zi num), .int (zi ((k : Int) + 1)), .int v] [] (zm len μ ν) = zE zc_X12_wordAt call 5 [.ref 92, .int (zi (p : Int)), .int (zi (e : Int)), .int (zi num), .int (zi ((k : Int) + 1 + (ln : Int))), .int v] [] (zm len μ ν) := by
  have L := zloop (f := fun j => zE zc_X12_wordAt call 93 [.ref 92, .int (zi (p : Int)), .int (zi (e : Int)), .int (zi num), .int (zi ((k : Int) + 1 + (j : Int))), .int v] [] (zm len μ ν)) (n := ln) (fun j hj => by
    show zE _ _ _ _ _ _ = zE _ _ _ _ _ _
    have E := e97 (k + 1 + j) (by omega)
    have hw := mch_r (k + 1 + j) (by omega)
    have hn := hne j hj
    have ix : ((k : Int) + 1 + (j : Int)).toNat = k + 1 + j := by omega
    rw [B_X12_wordAt_93]
    simp (disch := omega) only [ix, E, hn, zbi_some, zbl_some, zbv_some, zbi_none, zbl_none, zbv_none, zbi_ite, zbl_ite, zbv_ite, zbZ, zbO, zc_lt, zc_le, zc_ge, zc_gt, zc_eq, zk0, zk1, zk2, zk3, zk4, zk5, zk6, zk7, zk8, zk9, zk10, zk11, zk12, zk14, zk15, zk16, zk17, zk19, zk20, zk21, zk24, zk25, zk30, zk32, zk36, zk40, zk45, zk50, zk64, zk97, zk99, zk100, zk102, zk122, zk128, zk255, zk800, zk801, zk900, zk999, zk1000, zk1997, zk9999, zk10000, zk100000, zk99999, zk9999999, zk999999999, zk2147483647, zlc0, zlc1, zlc2, zlc3, zlc4, zlc23, zlc99, zlc100, zlc9999999, zlc999999999999, zlc1073741824, zi_neg, zi_add, zi_sub, zi_mul, zl_neg, zl_add, zl_sub, zl_mul, zi_toInt, zi_nat, zi_le, zi_lt, zi_eq, zl_le, zl_lt, zl_eq, zl_toInt, zl_of32, zi_of64, zi_div, zl_div, zmodI, ↓reduceIte, zTle, zFle, zTlt, zFlt, zTeq, zFeq, if_true, if_false, and_self, and_true, true_and, and_false, false_and, or_self, or_true, true_or, or_false, false_or, not_true_eq_false, not_false_eq_true, zcastA, zcastL, znatC, zab, Int.reduceAdd, Int.reduceSub, Int.reduceMul, Int.reduceNeg, Int.reduceToNat, Nat.reduceAdd]
    rw [show (k : Int) + 1 + (j : Int) + 1 = (k : Int) + 1 + ((j : Int) + 1) by omega])
  simp only [Int.natCast_zero, Int.add_zero] at L
  refine L.trans ?_
  have E := e97 (k + 1 + ln) (by omega)
  have ix : ((k : Int) + 1 + (ln : Int)).toNat = k + 1 + ln := by omega
  rw [B_X12_wordAt_93]
  simp (disch := omega) only [ix, E, hb, zbi_some, zbl_some, zbv_some, zbi_none, zbl_none, zbv_none, zbi_ite, zbl_ite, zbv_ite, zbZ, zbO, zc_lt, zc_le, zc_ge, zc_gt, zc_eq, zk0, zk1, zk2, zk3, zk4, zk5, zk6, zk7, zk8, zk9, zk10, zk11, zk12, zk14, zk15, zk16, zk17, zk19, zk20, zk21, zk24, zk25, zk30, zk32, zk36, zk40, zk45, zk50, zk64, zk97, zk99, zk100, zk102, zk122, zk128, zk255, zk800, zk801, zk900, zk999, zk1000, zk1997, zk9999, zk10000, zk100000, zk99999, zk9999999, zk999999999, zk2147483647, zlc0, zlc1, zlc2, zlc3, zlc4, zlc23, zlc99, zlc100, zlc9999999, zlc999999999999, zlc1073741824, zi_neg, zi_add, zi_sub, zi_mul, zl_neg, zl_add, zl_sub, zl_mul, zi_toInt, zi_nat, zi_le, zi_lt, zi_eq, zl_le, zl_lt, zl_eq, zl_toInt, zl_of32, zi_of64, zi_div, zl_div, zmodI, ↓reduceIte, zTle, zFle, zTlt, zFlt, zTeq, zFeq, if_true, if_false, and_self, and_true, true_and, and_false, false_and, or_self, or_true, true_or, or_false, false_or, not_true_eq_false, not_false_eq_true, zcastA, zcastL, znatC, zab, Int.reduceAdd, Int.reduceSub, Int.reduceMul, Int.reduceNeg, Int.reduceToNat, Nat.reduceAdd]
theorem mw_cmp (call : zC) (e96 : ∀ i, μ 96 i = zi (g i)) (e97 : ∀ i : Nat, i < 80 → μ 97 i = zi (mch i)) (p n k ln : Nat) (num : Int) (hg : ∀ i, 0 ≤ g i ∧ g i ≤ 255) (hl : ∀ i, i < n → 65 ≤ g (p + i)) (hp : p + n ≤ 800) (hk : k + 1 + ln < 80) (hne : ∀ i, i < ln → mch (k + 1 + i) ≠ 32) (hb : mch (k + 1 + ln) = 32) : ∀ m j : Nat, j + m = n → j ≤ ln → (∀ i, i < j → g (p + i) = mch (k + 1 + i)) → (MT g p n k ln → zE zc_X12_wordAt call 19 [.ref 92, .int (zi (p : Int)), .int (zi ((p : Int) + (n : Int))), .int (zi num), .int (zi (k : Int)), .int (zi (j : Int))] [] (zm len μ ν) = some (.int (zi num), zm len μ ν)) ∧ (¬ MT g p n k ln → ∃ v : Int32, zE zc_X12_wordAt call 19 [.ref 92, .int (zi (p : Int)), .int (zi ((p : Int) + (n : Int))), .int (zi num), .int (zi (k : Int)), .int (zi (j : Int))] [] (zm len μ ν) = zE zc_X12_wordAt call 93 [.ref 92, .int (zi (p : Int)), .int (zi ((p : Int) + (n : Int))), .int (zi num), .int (zi ((k : Int) + 1)), .int v] [] (zm len μ ν)) := by
  intro m
  induction m with
  | zero =>
    intro j hj hjl hall
    have : j = n := by omega
    subst this
    have E := e97 (k + 1 + j) (by omega)
    have hw := mch_r (k + 1 + j) (by omega)
    have ix : ((k : Int) + 1 + (j : Int)).toNat = k + 1 + j := by omega
    by_cases q : j = ln
    · subst q
      refine ⟨fun _ => ?_, fun z => absurd ⟨rfl, hall⟩ z⟩
      rw [B_X12_wordAt_19]
      simp (disch := omega) only [B_X12_wordAt_60, ix, E, hb, zbi_some, zbl_some, zbv_some, zbi_none, zbl_none, zbv_none, zbi_ite, zbl_ite, zbv_ite, zbZ, zbO, zc_lt, zc_le, zc_ge, zc_gt, zc_eq, zk0, zk1, zk2, zk3, zk4, zk5, zk6, zk7, zk8, zk9, zk10, zk11, zk12, zk14, zk15, zk16, zk17, zk19, zk20, zk21, zk24, zk25, zk30, zk32, zk36, zk40, zk45, zk50, zk64, zk97, zk99, zk100, zk102, zk122, zk128, zk255, zk800, zk801, zk900, zk999, zk1000, zk1997, zk9999, zk10000, zk100000, zk99999, zk9999999, zk999999999, zk2147483647, zlc0, zlc1, zlc2, zlc3, zlc4, zlc23, zlc99, zlc100, zlc9999999, zlc999999999999, zlc1073741824, zi_neg, zi_add, zi_sub, zi_mul, zl_neg, zl_add, zl_sub, zl_mul, zi_toInt, zi_nat, zi_le, zi_lt, zi_eq, zl_le, zl_lt, zl_eq, zl_toInt, zl_of32, zi_of64, zi_div, zl_div, zmodI, ↓reduceIte, zTle, zFle, zTlt, zFlt, zTeq, zFeq, if_true, if_false, and_self, and_true, true_and, and_false, false_and, or_self, or_true, true_or, or_false, false_or, not_true_eq_false, not_false_eq_true, zcastA, zcastL, znatC, zab, Int.reduceAdd, Int.reduceSub, Int.reduceMul, Int.reduceNeg, Int.reduceToNat, Nat.reduceAdd]
    · have hn := hne j (by omega)
      refine ⟨fun z => absurd z.1 q, fun _ => ⟨zi (j : Int), ?_⟩⟩
      rw [B_X12_wordAt_19]
      simp (disch := omega) only [B_X12_wordAt_60, ix, E, hn, B_X12_wordAt_87, zbi_some, zbl_some, zbv_some, zbi_none, zbl_none, zbv_none, zbi_ite, zbl_ite, zbv_ite, zbZ, zbO, zc_lt, zc_le, zc_ge, zc_gt, zc_eq, zk0, zk1, zk2, zk3, zk4, zk5, zk6, zk7, zk8, zk9, zk10, zk11, zk12, zk14, zk15, zk16, zk17, zk19, zk20, zk21, zk24, zk25, zk30, zk32, zk36, zk40, zk45, zk50, zk64, zk97, zk99, zk100, zk102, zk122, zk128, zk255, zk800, zk801, zk900, zk999, zk1000, zk1997, zk9999, zk10000, zk100000, zk99999, zk9999999, zk999999999, zk2147483647, zlc0, zlc1, zlc2, zlc3, zlc4, zlc23, zlc99, zlc100, zlc9999999, zlc999999999999, zlc1073741824, zi_neg, zi_add, zi_sub, zi_mul, zl_neg, zl_add, zl_sub, zl_mul, zi_toInt, zi_nat, zi_le, zi_lt, zi_eq, zl_le, zl_lt, zl_eq, zl_toInt, zl_of32, zi_of64, zi_div, zl_div, zmodI, ↓reduceIte, zTle, zFle, zTlt, zFlt, zTeq, zFeq, if_true, if_false, and_self, and_true, true_and, and_false, false_and, or_self, or_true, true_or, or_false, false_or, not_true_eq_false, not_false_eq_true, zcastA, zcastL, znatC, zab, Int.reduceAdd, Int.reduceSub, Int.reduceMul, Int.reduceNeg, Int.reduceToNat, Nat.reduceAdd]
  | succ m ih =>
    intro j hj hjl hall
    have E := e97 (k + 1 + j) (by omega)
    have hw := mch_r (k + 1 + j) (by omega)
    have hgj := hg (p + j)
    have hlj := hl j (by omega)
    have ix : ((k : Int) + 1 + (j : Int)).toNat = k + 1 + j := by omega
    have ix2 : ((p : Int) + (j : Int)).toNat = p + j := by omega
    by_cases q : j = ln
    · subst q
      rw [hb] at E hw
      have hd : ¬ (32 : Int) = g (p + j) := by omega
      refine ⟨fun z => by have := z.1; omega, fun _ => ⟨zi (j : Int), ?_⟩⟩
      rw [B_X12_wordAt_19]
      simp (disch := omega) only [ix, ix2, E, e96, hd, B_X12_wordAt_60, B_X12_wordAt_87, zbi_some, zbl_some, zbv_some, zbi_none, zbl_none, zbv_none, zbi_ite, zbl_ite, zbv_ite, zbZ, zbO, zc_lt, zc_le, zc_ge, zc_gt, zc_eq, zk0, zk1, zk2, zk3, zk4, zk5, zk6, zk7, zk8, zk9, zk10, zk11, zk12, zk14, zk15, zk16, zk17, zk19, zk20, zk21, zk24, zk25, zk30, zk32, zk36, zk40, zk45, zk50, zk64, zk97, zk99, zk100, zk102, zk122, zk128, zk255, zk800, zk801, zk900, zk999, zk1000, zk1997, zk9999, zk10000, zk100000, zk99999, zk9999999, zk999999999, zk2147483647, zlc0, zlc1, zlc2, zlc3, zlc4, zlc23, zlc99, zlc100, zlc9999999, zlc999999999999, zlc1073741824, zi_neg, zi_add, zi_sub, zi_mul, zl_neg, zl_add, zl_sub, zl_mul, zi_toInt, zi_nat, zi_le, zi_lt, zi_eq, zl_le, zl_lt, zl_eq, zl_toInt, zl_of32, zi_of64, zi_div, zl_div, zmodI, ↓reduceIte, zTle, zFle, zTlt, zFlt, zTeq, zFeq, if_true, if_false, and_self, and_true, true_and, and_false, false_and, or_self, or_true, true_or, or_false, false_or, not_true_eq_false, not_false_eq_true, zcastA, zcastL, znatC, zab, Int.reduceAdd, Int.reduceSub, Int.reduceMul, Int.reduceNeg, Int.reduceToNat, Nat.reduceAdd]
    · by_cases w : g (p + j) = mch (k + 1 + j)
      · obtain ⟨a, b⟩ := ih (j + 1) (by omega) (by omega) (fun i hi => by
          by_cases z : i = j
          · rw [z]; exact w
          · exact hall i (by omega))
        have st : zE zc_X12_wordAt call 19 [.ref 92, .int (zi (p : Int)), .int (zi ((p : Int) + (n : Int))), .int (zi num), .int (zi (k : Int)), .int (zi (j : Int))] [] (zm len μ ν) = zE zc_X12_wordAt call 19 [.ref 92, .int (zi (p : Int)), .int (zi ((p : Int) + (n : Int))), .int (zi num), .int (zi (k : Int)), .int (zi ((j : Int) + 1))] [] (zm len μ ν) := by
          rw [B_X12_wordAt_19]
          simp (disch := omega) only [ix, ix2, E, e96, w, zbi_some, zbl_some, zbv_some, zbi_none, zbl_none, zbv_none, zbi_ite, zbl_ite, zbv_ite, zbZ, zbO, zc_lt, zc_le, zc_ge, zc_gt, zc_eq, zk0, zk1, zk2, zk3, zk4, zk5, zk6, zk7, zk8, zk9, zk10, zk11, zk12, zk14, zk15, zk16, zk17, zk19, zk20, zk21, zk24, zk25, zk30, zk32, zk36, zk40, zk45, zk50, zk64, zk97, zk99, zk100, zk102, zk122, zk128, zk255, zk800, zk801, zk900, zk999, zk1000, zk1997, zk9999, zk10000, zk100000, zk99999, zk9999999, zk999999999, zk2147483647, zlc0, zlc1, zlc2, zlc3, zlc4, zlc23, zlc99, zlc100, zlc9999999, zlc999999999999, zlc1073741824, zi_neg, zi_add, zi_sub, zi_mul, zl_neg, zl_add, zl_sub, zl_mul, zi_toInt, zi_nat, zi_le, zi_lt, zi_eq, zl_le, zl_lt, zl_eq, zl_toInt, zl_of32, zi_of64, zi_div, zl_div, zmodI, ↓reduceIte, zTle, zFle, zTlt, zFlt, zTeq, zFeq, if_true, if_false, and_self, and_true, true_and, and_false, false_and, or_self, or_true, true_or, or_false, false_or, not_true_eq_false, not_false_eq_true, zcastA, zcastL, znatC, zab, Int.reduceAdd, Int.reduceSub, Int.reduceMul, Int.reduceNeg, Int.reduceToNat, Nat.reduceAdd]
        rw [st]
        exact ⟨a, b⟩
      · have w' : ¬ mch (k + 1 + j) = g (p + j) := fun z => w z.symm
        refine ⟨fun z => absurd (z.2 j (by omega)) w, fun _ => ⟨zi (j : Int), ?_⟩⟩
        rw [B_X12_wordAt_19]
        simp (disch := omega) only [ix, ix2, E, e96, w', B_X12_wordAt_60, B_X12_wordAt_87, zbi_some, zbl_some, zbv_some, zbi_none, zbl_none, zbv_none, zbi_ite, zbl_ite, zbv_ite, zbZ, zbO, zc_lt, zc_le, zc_ge, zc_gt, zc_eq, zk0, zk1, zk2, zk3, zk4, zk5, zk6, zk7, zk8, zk9, zk10, zk11, zk12, zk14, zk15, zk16, zk17, zk19, zk20, zk21, zk24, zk25, zk30, zk32, zk36, zk40, zk45, zk50, zk64, zk97, zk99, zk100, zk102, zk122, zk128, zk255, zk800, zk801, zk900, zk999, zk1000, zk1997, zk9999, zk10000, zk100000, zk99999, zk9999999, zk999999999, zk2147483647, zlc0, zlc1, zlc2, zlc3, zlc4, zlc23, zlc99, zlc100, zlc9999999, zlc999999999999, zlc1073741824, zi_neg, zi_add, zi_sub, zi_mul, zl_neg, zl_add, zl_sub, zl_mul, zi_toInt, zi_nat, zi_le, zi_lt, zi_eq, zl_le, zl_lt, zl_eq, zl_toInt, zl_of32, zi_of64, zi_div, zl_div, zmodI, ↓reduceIte, zTle, zFle, zTlt, zFlt, zTeq, zFeq, if_true, if_false, and_self, and_true, true_and, and_false, false_and, or_self, or_true, true_or, or_false, false_or, not_true_eq_false, not_false_eq_true, zcastA, zcastL, znatC, zab, Int.reduceAdd, Int.reduceSub, Int.reduceMul, Int.reduceNeg, Int.reduceToNat, Nat.reduceAdd]
theorem mw_hit (call : zC) (e96 : ∀ i, μ 96 i = zi (g i)) (e97 : ∀ i : Nat, i < 80 → μ 97 i = zi (mch i)) (hg : ∀ i, 0 ≤ g i ∧ g i ≤ 255) (p n : Nat) (hl : ∀ i, i < n → 65 ≤ g (p + i)) (hp : p + n ≤ 800) (k ln : Nat) (num : Int) (hk : k + 1 + ln < 80) (hne : ∀ i, i < ln → mch (k + 1 + i) ≠ 32) (hb : mch (k + 1 + ln) = 32) (h : MT g p n k ln) (v : Value) : zE zc_X12_wordAt call 5 [.ref 92, .int (zi (p : Int)), .int (zi ((p : Int) + (n : Int))), .int (zi num), .int (zi (k : Int)), v] [] (zm len μ ν) = some (.int (zi (num + 1)), zm len μ ν) := by
  have := (mw_cmp len μ ν g call e96 e97 p n k ln (num + 1) hg hl hp hk hne hb n 0 (by omega) (by omega) (fun i hi => by omega)).1 h
  rw [B_X12_wordAt_5]
  simp (disch := omega) only [zq79, zbi_some, zbl_some, zbv_some, zbi_none, zbl_none, zbv_none, zbi_ite, zbl_ite, zbv_ite, zbZ, zbO, zc_lt, zc_le, zc_ge, zc_gt, zc_eq, zk0, zk1, zk2, zk3, zk4, zk5, zk6, zk7, zk8, zk9, zk10, zk11, zk12, zk14, zk15, zk16, zk17, zk19, zk20, zk21, zk24, zk25, zk30, zk32, zk36, zk40, zk45, zk50, zk64, zk97, zk99, zk100, zk102, zk122, zk128, zk255, zk800, zk801, zk900, zk999, zk1000, zk1997, zk9999, zk10000, zk100000, zk99999, zk9999999, zk999999999, zk2147483647, zlc0, zlc1, zlc2, zlc3, zlc4, zlc23, zlc99, zlc100, zlc9999999, zlc999999999999, zlc1073741824, zi_neg, zi_add, zi_sub, zi_mul, zl_neg, zl_add, zl_sub, zl_mul, zi_toInt, zi_nat, zi_le, zi_lt, zi_eq, zl_le, zl_lt, zl_eq, zl_toInt, zl_of32, zi_of64, zi_div, zl_div, zmodI, ↓reduceIte, zTle, zFle, zTlt, zFlt, zTeq, zFeq, if_true, if_false, and_self, and_true, true_and, and_false, false_and, or_self, or_true, true_or, or_false, false_or, not_true_eq_false, not_false_eq_true, zcastA, zcastL, znatC, zab, Int.reduceAdd, Int.reduceSub, Int.reduceMul, Int.reduceNeg, Int.reduceToNat, Nat.reduceAdd]
  exact this
theorem mw_miss (call : zC) (e96 : ∀ i, μ 96 i = zi (g i)) (e97 : ∀ i : Nat, i < 80 → μ 97 i = zi (mch i)) (hg : ∀ i, 0 ≤ g i ∧ g i ≤ 255) (p n : Nat) (hl : ∀ i, i < n → 65 ≤ g (p + i)) (hp : p + n ≤ 800) (k ln : Nat) (num : Int) (hk : k + 1 + ln < 80) (hne : ∀ i, i < ln → mch (k + 1 + i) ≠ 32) (hb : mch (k + 1 + ln) = 32) (h : ¬ MT g p n k ln) (v : Value) : ∃ w : Value, zE zc_X12_wordAt call 5 [.ref 92, .int (zi (p : Int)), .int (zi ((p : Int) + (n : Int))), .int (zi num), .int (zi (k : Int)), v] [] (zm len μ ν) = zE zc_X12_wordAt call 5 [.ref 92, .int (zi (p : Int)), .int (zi ((p : Int) + (n : Int))), .int (zi (num + 1)), .int (zi ((k : Int) + 1 + (ln : Int))), w] [] (zm len μ ν) := by
  obtain ⟨w, e⟩ := (mw_cmp len μ ν g call e96 e97 p n k ln (num + 1) hg hl hp hk hne hb n 0 (by omega) (by omega) (fun i hi => by omega)).2 h
  refine ⟨.int w, ?_⟩
  rw [B_X12_wordAt_5]
  simp (disch := omega) only [zq79, zbi_some, zbl_some, zbv_some, zbi_none, zbl_none, zbv_none, zbi_ite, zbl_ite, zbv_ite, zbZ, zbO, zc_lt, zc_le, zc_ge, zc_gt, zc_eq, zk0, zk1, zk2, zk3, zk4, zk5, zk6, zk7, zk8, zk9, zk10, zk11, zk12, zk14, zk15, zk16, zk17, zk19, zk20, zk21, zk24, zk25, zk30, zk32, zk36, zk40, zk45, zk50, zk64, zk97, zk99, zk100, zk102, zk122, zk128, zk255, zk800, zk801, zk900, zk999, zk1000, zk1997, zk9999, zk10000, zk100000, zk99999, zk9999999, zk999999999, zk2147483647, zlc0, zlc1, zlc2, zlc3, zlc4, zlc23, zlc99, zlc100, zlc9999999, zlc999999999999, zlc1073741824, zi_neg, zi_add, zi_sub, zi_mul, zl_neg, zl_add, zl_sub, zl_mul, zi_toInt, zi_nat, zi_le, zi_lt, zi_eq, zl_le, zl_lt, zl_eq, zl_toInt, zl_of32, zi_of64, zi_div, zl_div, zmodI, ↓reduceIte, zTle, zFle, zTlt, zFlt, zTeq, zFeq, if_true, if_false, and_self, and_true, true_and, and_false, false_and, or_self, or_true, true_or, or_false, false_or, not_true_eq_false, not_false_eq_true, zcastA, zcastL, znatC, zab, Int.reduceAdd, Int.reduceSub, Int.reduceMul, Int.reduceNeg, Int.reduceToNat, Nat.reduceAdd]
  exact e.trans (mw_run len μ ν call e97 p (p + n) k ln (num + 1) hk hne hb w)
end WORDS

/-- what the letters at p are, n of them: for both sides -/
theorem words_ok (g : Nat → Int) (hg : ∀ i, 0 ≤ g i ∧ g i ≤ 255) (p n : Nat) (hl : ∀ i, i < n → 65 ≤ g (p + i)) (hp : p + n ≤ 800) (hno : ¬ (n = 1 ∧ 97 ≤ g p ∧ g p ≤ 102)) : ∃ w : Int, (w = -1 ∨ (0 ≤ w ∧ w ≤ 4) ∨ (11 ≤ w ∧ w ≤ 20)) ∧ (∀ (d len : Nat) (μ : zMu) (ν : zNu), (∀ i, μ 7 i = zi (g i)) → zF zT0 (d + 6) 125 [.ref 6, .int (zi (p : Int)), .int (zi (n : Int))] (zm len μ ν) = some (.int (zi (if w = -1 then 1 else if w ≤ 4 then 128 + w else 122 + w)), zm len μ ν)) ∧ ∀ (d len : Nat) (μ : zMu) (ν : zNu), (∀ i, μ 96 i = zi (g i)) → (∀ i : Nat, i < 80 → μ 97 i = zi (mch i)) → zF zT0 (d + 1) 200 [.ref 92, .int (zi (p : Int)), .int (zi ((p : Int) + (n : Int)))] (zm len μ ν) = some (.int (zi w), zm len μ ν) := by
  have m5 : ¬ MT g p n 21 1 := fun z => by
    have := z.2 0 (by omega)
    have e : mch (21 + 1 + 0) = 97 := by decide
    rw [e, Nat.add_zero] at this
    exact hno ⟨z.1, by omega, by omega⟩
  have m6 : ¬ MT g p n 23 1 := fun z => by
    have := z.2 0 (by omega)
    have e : mch (23 + 1 + 0) = 98 := by decide
    rw [e, Nat.add_zero] at this
    exact hno ⟨z.1, by omega, by omega⟩
  have m7 : ¬ MT g p n 25 1 := fun z => by
    have := z.2 0 (by omega)
    have e : mch (25 + 1 + 0) = 99 := by decide
    rw [e, Nat.add_zero] at this
    exact hno ⟨z.1, by omega, by omega⟩
  have m8 : ¬ MT g p n 27 1 := fun z => by
    have := z.2 0 (by omega)
    have e : mch (27 + 1 + 0) = 100 := by decide
    rw [e, Nat.add_zero] at this
    exact hno ⟨z.1, by omega, by omega⟩
  have m9 : ¬ MT g p n 29 1 := fun z => by
    have := z.2 0 (by omega)
    have e : mch (29 + 1 + 0) = 101 := by decide
    rw [e, Nat.add_zero] at this
    exact hno ⟨z.1, by omega, by omega⟩
  have m10 : ¬ MT g p n 31 1 := fun z => by
    have := z.2 0 (by omega)
    have e : mch (31 + 1 + 0) = 102 := by decide
    rw [e, Nat.add_zero] at this
    exact hno ⟨z.1, by omega, by omega⟩
  by_cases m0 : MT g p n 0 2
  · refine ⟨0, by omega, ?_, ?_⟩
    · intro d len μ ν e7
      rw [B_X10_wordAt]
      exact cw_hit d len μ ν g e7 hg p n 0 2 0 128 hp (by decide) (by decide) (by decide) (by decide) m0
    · intro d len μ ν e96 e97
      rw [B_X12_wordAt]
      exact mw_hit len μ ν g (zF zT0 d) e96 e97 hg p n hl hp 0 2 (-1) (by decide) (by decide) (by decide) m0 (zU)
  by_cases m1 : MT g p n 3 3
  · refine ⟨1, by omega, ?_, ?_⟩
    · intro d len μ ν e7
      rw [B_X10_wordAt]
      refine (cw_miss d len μ ν g e7 hg p n 0 2 0 128 hp (by decide) (by decide) (by decide) (by decide) m0).trans ?_
      exact cw_hit d len μ ν g e7 hg p n 3 3 3 129 hp (by decide) (by decide) (by decide) (by decide) m1
    · intro d len μ ν e96 e97
      rw [B_X12_wordAt]
      obtain ⟨w0, h0⟩ := mw_miss len μ ν g (zF zT0 d) e96 e97 hg p n hl hp 0 2 (-1) (by decide) (by decide) (by decide) m0 (zU)
      refine h0.trans ?_
      exact mw_hit len μ ν g (zF zT0 d) e96 e97 hg p n hl hp 3 3 (0) (by decide) (by decide) (by decide) m1 (w0)
  by_cases m2 : MT g p n 7 3
  · refine ⟨2, by omega, ?_, ?_⟩
    · intro d len μ ν e7
      rw [B_X10_wordAt]
      refine (cw_miss d len μ ν g e7 hg p n 0 2 0 128 hp (by decide) (by decide) (by decide) (by decide) m0).trans ?_
      refine (cw_miss d len μ ν g e7 hg p n 3 3 3 129 hp (by decide) (by decide) (by decide) (by decide) m1).trans ?_
      exact cw_hit d len μ ν g e7 hg p n 7 3 7 130 hp (by decide) (by decide) (by decide) (by decide) m2
    · intro d len μ ν e96 e97
      rw [B_X12_wordAt]
      obtain ⟨w0, h0⟩ := mw_miss len μ ν g (zF zT0 d) e96 e97 hg p n hl hp 0 2 (-1) (by decide) (by decide) (by decide) m0 (zU)
      refine h0.trans ?_
      obtain ⟨w1, h1⟩ := mw_miss len μ ν g (zF zT0 d) e96 e97 hg p n hl hp 3 3 (0) (by decide) (by decide) (by decide) m1 (w0)
      refine h1.trans ?_
      exact mw_hit len μ ν g (zF zT0 d) e96 e97 hg p n hl hp 7 3 (1) (by decide) (by decide) (by decide) m2 (w1)
  by_cases m3 : MT g p n 11 4
  · refine ⟨3, by omega, ?_, ?_⟩
    · intro d len μ ν e7
      rw [B_X10_wordAt]
      refine (cw_miss d len μ ν g e7 hg p n 0 2 0 128 hp (by decide) (by decide) (by decide) (by decide) m0).trans ?_
      refine (cw_miss d len μ ν g e7 hg p n 3 3 3 129 hp (by decide) (by decide) (by decide) (by decide) m1).trans ?_
      refine (cw_miss d len μ ν g e7 hg p n 7 3 7 130 hp (by decide) (by decide) (by decide) (by decide) m2).trans ?_
      exact cw_hit d len μ ν g e7 hg p n 11 4 11 131 hp (by decide) (by decide) (by decide) (by decide) m3
    · intro d len μ ν e96 e97
      rw [B_X12_wordAt]
      obtain ⟨w0, h0⟩ := mw_miss len μ ν g (zF zT0 d) e96 e97 hg p n hl hp 0 2 (-1) (by decide) (by decide) (by decide) m0 (zU)
      refine h0.trans ?_
      obtain ⟨w1, h1⟩ := mw_miss len μ ν g (zF zT0 d) e96 e97 hg p n hl hp 3 3 (0) (by decide) (by decide) (by decide) m1 (w0)
      refine h1.trans ?_
      obtain ⟨w2, h2⟩ := mw_miss len μ ν g (zF zT0 d) e96 e97 hg p n hl hp 7 3 (1) (by decide) (by decide) (by decide) m2 (w1)
      refine h2.trans ?_
      exact mw_hit len μ ν g (zF zT0 d) e96 e97 hg p n hl hp 11 4 (2) (by decide) (by decide) (by decide) m3 (w2)
  by_cases m4 : MT g p n 16 4
  · refine ⟨4, by omega, ?_, ?_⟩
    · intro d len μ ν e7
      rw [B_X10_wordAt]
      refine (cw_miss d len μ ν g e7 hg p n 0 2 0 128 hp (by decide) (by decide) (by decide) (by decide) m0).trans ?_
      refine (cw_miss d len μ ν g e7 hg p n 3 3 3 129 hp (by decide) (by decide) (by decide) (by decide) m1).trans ?_
      refine (cw_miss d len μ ν g e7 hg p n 7 3 7 130 hp (by decide) (by decide) (by decide) (by decide) m2).trans ?_
      refine (cw_miss d len μ ν g e7 hg p n 11 4 11 131 hp (by decide) (by decide) (by decide) (by decide) m3).trans ?_
      exact cw_hit d len μ ν g e7 hg p n 16 4 16 132 hp (by decide) (by decide) (by decide) (by decide) m4
    · intro d len μ ν e96 e97
      rw [B_X12_wordAt]
      obtain ⟨w0, h0⟩ := mw_miss len μ ν g (zF zT0 d) e96 e97 hg p n hl hp 0 2 (-1) (by decide) (by decide) (by decide) m0 (zU)
      refine h0.trans ?_
      obtain ⟨w1, h1⟩ := mw_miss len μ ν g (zF zT0 d) e96 e97 hg p n hl hp 3 3 (0) (by decide) (by decide) (by decide) m1 (w0)
      refine h1.trans ?_
      obtain ⟨w2, h2⟩ := mw_miss len μ ν g (zF zT0 d) e96 e97 hg p n hl hp 7 3 (1) (by decide) (by decide) (by decide) m2 (w1)
      refine h2.trans ?_
      obtain ⟨w3, h3⟩ := mw_miss len μ ν g (zF zT0 d) e96 e97 hg p n hl hp 11 4 (2) (by decide) (by decide) (by decide) m3 (w2)
      refine h3.trans ?_
      exact mw_hit len μ ν g (zF zT0 d) e96 e97 hg p n hl hp 16 4 (3) (by decide) (by decide) (by decide) m4 (w3)
  by_cases m11 : MT g p n 33 4
  · refine ⟨11, by omega, ?_, ?_⟩
    · intro d len μ ν e7
      rw [B_X10_wordAt]
      refine (cw_miss d len μ ν g e7 hg p n 0 2 0 128 hp (by decide) (by decide) (by decide) (by decide) m0).trans ?_
      refine (cw_miss d len μ ν g e7 hg p n 3 3 3 129 hp (by decide) (by decide) (by decide) (by decide) m1).trans ?_
      refine (cw_miss d len μ ν g e7 hg p n 7 3 7 130 hp (by decide) (by decide) (by decide) (by decide) m2).trans ?_
      refine (cw_miss d len μ ν g e7 hg p n 11 4 11 131 hp (by decide) (by decide) (by decide) (by decide) m3).trans ?_
      refine (cw_miss d len μ ν g e7 hg p n 16 4 16 132 hp (by decide) (by decide) (by decide) (by decide) m4).trans ?_
      exact cw_hit d len μ ν g e7 hg p n 21 4 33 133 hp (by decide) (by decide) (by decide) (by decide) m11
    · intro d len μ ν e96 e97
      rw [B_X12_wordAt]
      obtain ⟨w0, h0⟩ := mw_miss len μ ν g (zF zT0 d) e96 e97 hg p n hl hp 0 2 (-1) (by decide) (by decide) (by decide) m0 (zU)
      refine h0.trans ?_
      obtain ⟨w1, h1⟩ := mw_miss len μ ν g (zF zT0 d) e96 e97 hg p n hl hp 3 3 (0) (by decide) (by decide) (by decide) m1 (w0)
      refine h1.trans ?_
      obtain ⟨w2, h2⟩ := mw_miss len μ ν g (zF zT0 d) e96 e97 hg p n hl hp 7 3 (1) (by decide) (by decide) (by decide) m2 (w1)
      refine h2.trans ?_
      obtain ⟨w3, h3⟩ := mw_miss len μ ν g (zF zT0 d) e96 e97 hg p n hl hp 11 4 (2) (by decide) (by decide) (by decide) m3 (w2)
      refine h3.trans ?_
      obtain ⟨w4, h4⟩ := mw_miss len μ ν g (zF zT0 d) e96 e97 hg p n hl hp 16 4 (3) (by decide) (by decide) (by decide) m4 (w3)
      refine h4.trans ?_
      obtain ⟨w5, h5⟩ := mw_miss len μ ν g (zF zT0 d) e96 e97 hg p n hl hp 21 1 (4) (by decide) (by decide) (by decide) m5 (w4)
      refine h5.trans ?_
      obtain ⟨w6, h6⟩ := mw_miss len μ ν g (zF zT0 d) e96 e97 hg p n hl hp 23 1 (5) (by decide) (by decide) (by decide) m6 (w5)
      refine h6.trans ?_
      obtain ⟨w7, h7⟩ := mw_miss len μ ν g (zF zT0 d) e96 e97 hg p n hl hp 25 1 (6) (by decide) (by decide) (by decide) m7 (w6)
      refine h7.trans ?_
      obtain ⟨w8, h8⟩ := mw_miss len μ ν g (zF zT0 d) e96 e97 hg p n hl hp 27 1 (7) (by decide) (by decide) (by decide) m8 (w7)
      refine h8.trans ?_
      obtain ⟨w9, h9⟩ := mw_miss len μ ν g (zF zT0 d) e96 e97 hg p n hl hp 29 1 (8) (by decide) (by decide) (by decide) m9 (w8)
      refine h9.trans ?_
      obtain ⟨w10, h10⟩ := mw_miss len μ ν g (zF zT0 d) e96 e97 hg p n hl hp 31 1 (9) (by decide) (by decide) (by decide) m10 (w9)
      refine h10.trans ?_
      exact mw_hit len μ ν g (zF zT0 d) e96 e97 hg p n hl hp 33 4 (10) (by decide) (by decide) (by decide) m11 (w10)
  by_cases m12 : MT g p n 38 4
  · refine ⟨12, by omega, ?_, ?_⟩
    · intro d len μ ν e7
      rw [B_X10_wordAt]
      refine (cw_miss d len μ ν g e7 hg p n 0 2 0 128 hp (by decide) (by decide) (by decide) (by decide) m0).trans ?_
      refine (cw_miss d len μ ν g e7 hg p n 3 3 3 129 hp (by decide) (by decide) (by decide) (by decide) m1).trans ?_
      refine (cw_miss d len μ ν g e7 hg p n 7 3 7 130 hp (by decide) (by decide) (by decide) (by decide) m2).trans ?_
      refine (cw_miss d len μ ν g e7 hg p n 11 4 11 131 hp (by decide) (by decide) (by decide) (by decide) m3).trans ?_
      refine (cw_miss d len μ ν g e7 hg p n 16 4 16 132 hp (by decide) (by decide) (by decide) (by decide) m4).trans ?_
      refine (cw_miss d len μ ν g e7 hg p n 21 4 33 133 hp (by decide) (by decide) (by decide) (by decide) m11).trans ?_
      exact cw_hit d len μ ν g e7 hg p n 26 4 38 134 hp (by decide) (by decide) (by decide) (by decide) m12
    · intro d len μ ν e96 e97
      rw [B_X12_wordAt]
      obtain ⟨w0, h0⟩ := mw_miss len μ ν g (zF zT0 d) e96 e97 hg p n hl hp 0 2 (-1) (by decide) (by decide) (by decide) m0 (zU)
      refine h0.trans ?_
      obtain ⟨w1, h1⟩ := mw_miss len μ ν g (zF zT0 d) e96 e97 hg p n hl hp 3 3 (0) (by decide) (by decide) (by decide) m1 (w0)
      refine h1.trans ?_
      obtain ⟨w2, h2⟩ := mw_miss len μ ν g (zF zT0 d) e96 e97 hg p n hl hp 7 3 (1) (by decide) (by decide) (by decide) m2 (w1)
      refine h2.trans ?_
      obtain ⟨w3, h3⟩ := mw_miss len μ ν g (zF zT0 d) e96 e97 hg p n hl hp 11 4 (2) (by decide) (by decide) (by decide) m3 (w2)
      refine h3.trans ?_
      obtain ⟨w4, h4⟩ := mw_miss len μ ν g (zF zT0 d) e96 e97 hg p n hl hp 16 4 (3) (by decide) (by decide) (by decide) m4 (w3)
      refine h4.trans ?_
      obtain ⟨w5, h5⟩ := mw_miss len μ ν g (zF zT0 d) e96 e97 hg p n hl hp 21 1 (4) (by decide) (by decide) (by decide) m5 (w4)
      refine h5.trans ?_
      obtain ⟨w6, h6⟩ := mw_miss len μ ν g (zF zT0 d) e96 e97 hg p n hl hp 23 1 (5) (by decide) (by decide) (by decide) m6 (w5)
      refine h6.trans ?_
      obtain ⟨w7, h7⟩ := mw_miss len μ ν g (zF zT0 d) e96 e97 hg p n hl hp 25 1 (6) (by decide) (by decide) (by decide) m7 (w6)
      refine h7.trans ?_
      obtain ⟨w8, h8⟩ := mw_miss len μ ν g (zF zT0 d) e96 e97 hg p n hl hp 27 1 (7) (by decide) (by decide) (by decide) m8 (w7)
      refine h8.trans ?_
      obtain ⟨w9, h9⟩ := mw_miss len μ ν g (zF zT0 d) e96 e97 hg p n hl hp 29 1 (8) (by decide) (by decide) (by decide) m9 (w8)
      refine h9.trans ?_
      obtain ⟨w10, h10⟩ := mw_miss len μ ν g (zF zT0 d) e96 e97 hg p n hl hp 31 1 (9) (by decide) (by decide) (by decide) m10 (w9)
      refine h10.trans ?_
      obtain ⟨w11, h11⟩ := mw_miss len μ ν g (zF zT0 d) e96 e97 hg p n hl hp 33 4 (10) (by decide) (by decide) (by decide) m11 (w10)
      refine h11.trans ?_
      exact mw_hit len μ ν g (zF zT0 d) e96 e97 hg p n hl hp 38 4 (11) (by decide) (by decide) (by decide) m12 (w11)
  by_cases m13 : MT g p n 43 2
  · refine ⟨13, by omega, ?_, ?_⟩
    · intro d len μ ν e7
      rw [B_X10_wordAt]
      refine (cw_miss d len μ ν g e7 hg p n 0 2 0 128 hp (by decide) (by decide) (by decide) (by decide) m0).trans ?_
      refine (cw_miss d len μ ν g e7 hg p n 3 3 3 129 hp (by decide) (by decide) (by decide) (by decide) m1).trans ?_
      refine (cw_miss d len μ ν g e7 hg p n 7 3 7 130 hp (by decide) (by decide) (by decide) (by decide) m2).trans ?_
      refine (cw_miss d len μ ν g e7 hg p n 11 4 11 131 hp (by decide) (by decide) (by decide) (by decide) m3).trans ?_
      refine (cw_miss d len μ ν g e7 hg p n 16 4 16 132 hp (by decide) (by decide) (by decide) (by decide) m4).trans ?_
      refine (cw_miss d len μ ν g e7 hg p n 21 4 33 133 hp (by decide) (by decide) (by decide) (by decide) m11).trans ?_
      refine (cw_miss d len μ ν g e7 hg p n 26 4 38 134 hp (by decide) (by decide) (by decide) (by decide) m12).trans ?_
      exact cw_hit d len μ ν g e7 hg p n 31 2 43 135 hp (by decide) (by decide) (by decide) (by decide) m13
    · intro d len μ ν e96 e97
      rw [B_X12_wordAt]
      obtain ⟨w0, h0⟩ := mw_miss len μ ν g (zF zT0 d) e96 e97 hg p n hl hp 0 2 (-1) (by decide) (by decide) (by decide) m0 (zU)
      refine h0.trans ?_
      obtain ⟨w1, h1⟩ := mw_miss len μ ν g (zF zT0 d) e96 e97 hg p n hl hp 3 3 (0) (by decide) (by decide) (by decide) m1 (w0)
      refine h1.trans ?_
      obtain ⟨w2, h2⟩ := mw_miss len μ ν g (zF zT0 d) e96 e97 hg p n hl hp 7 3 (1) (by decide) (by decide) (by decide) m2 (w1)
      refine h2.trans ?_
      obtain ⟨w3, h3⟩ := mw_miss len μ ν g (zF zT0 d) e96 e97 hg p n hl hp 11 4 (2) (by decide) (by decide) (by decide) m3 (w2)
      refine h3.trans ?_
      obtain ⟨w4, h4⟩ := mw_miss len μ ν g (zF zT0 d) e96 e97 hg p n hl hp 16 4 (3) (by decide) (by decide) (by decide) m4 (w3)
      refine h4.trans ?_
      obtain ⟨w5, h5⟩ := mw_miss len μ ν g (zF zT0 d) e96 e97 hg p n hl hp 21 1 (4) (by decide) (by decide) (by decide) m5 (w4)
      refine h5.trans ?_
      obtain ⟨w6, h6⟩ := mw_miss len μ ν g (zF zT0 d) e96 e97 hg p n hl hp 23 1 (5) (by decide) (by decide) (by decide) m6 (w5)
      refine h6.trans ?_
      obtain ⟨w7, h7⟩ := mw_miss len μ ν g (zF zT0 d) e96 e97 hg p n hl hp 25 1 (6) (by decide) (by decide) (by decide) m7 (w6)
      refine h7.trans ?_
      obtain ⟨w8, h8⟩ := mw_miss len μ ν g (zF zT0 d) e96 e97 hg p n hl hp 27 1 (7) (by decide) (by decide) (by decide) m8 (w7)
      refine h8.trans ?_
      obtain ⟨w9, h9⟩ := mw_miss len μ ν g (zF zT0 d) e96 e97 hg p n hl hp 29 1 (8) (by decide) (by decide) (by decide) m9 (w8)
      refine h9.trans ?_
      obtain ⟨w10, h10⟩ := mw_miss len μ ν g (zF zT0 d) e96 e97 hg p n hl hp 31 1 (9) (by decide) (by decide) (by decide) m10 (w9)
      refine h10.trans ?_
      obtain ⟨w11, h11⟩ := mw_miss len μ ν g (zF zT0 d) e96 e97 hg p n hl hp 33 4 (10) (by decide) (by decide) (by decide) m11 (w10)
      refine h11.trans ?_
      obtain ⟨w12, h12⟩ := mw_miss len μ ν g (zF zT0 d) e96 e97 hg p n hl hp 38 4 (11) (by decide) (by decide) (by decide) m12 (w11)
      refine h12.trans ?_
      exact mw_hit len μ ν g (zF zT0 d) e96 e97 hg p n hl hp 43 2 (12) (by decide) (by decide) (by decide) m13 (w12)
  by_cases m14 : MT g p n 46 3
  · refine ⟨14, by omega, ?_, ?_⟩
    · intro d len μ ν e7
      rw [B_X10_wordAt]
      refine (cw_miss d len μ ν g e7 hg p n 0 2 0 128 hp (by decide) (by decide) (by decide) (by decide) m0).trans ?_
      refine (cw_miss d len μ ν g e7 hg p n 3 3 3 129 hp (by decide) (by decide) (by decide) (by decide) m1).trans ?_
      refine (cw_miss d len μ ν g e7 hg p n 7 3 7 130 hp (by decide) (by decide) (by decide) (by decide) m2).trans ?_
      refine (cw_miss d len μ ν g e7 hg p n 11 4 11 131 hp (by decide) (by decide) (by decide) (by decide) m3).trans ?_
      refine (cw_miss d len μ ν g e7 hg p n 16 4 16 132 hp (by decide) (by decide) (by decide) (by decide) m4).trans ?_
      refine (cw_miss d len μ ν g e7 hg p n 21 4 33 133 hp (by decide) (by decide) (by decide) (by decide) m11).trans ?_
      refine (cw_miss d len μ ν g e7 hg p n 26 4 38 134 hp (by decide) (by decide) (by decide) (by decide) m12).trans ?_
      refine (cw_miss d len μ ν g e7 hg p n 31 2 43 135 hp (by decide) (by decide) (by decide) (by decide) m13).trans ?_
      exact cw_hit d len μ ν g e7 hg p n 34 3 46 136 hp (by decide) (by decide) (by decide) (by decide) m14
    · intro d len μ ν e96 e97
      rw [B_X12_wordAt]
      obtain ⟨w0, h0⟩ := mw_miss len μ ν g (zF zT0 d) e96 e97 hg p n hl hp 0 2 (-1) (by decide) (by decide) (by decide) m0 (zU)
      refine h0.trans ?_
      obtain ⟨w1, h1⟩ := mw_miss len μ ν g (zF zT0 d) e96 e97 hg p n hl hp 3 3 (0) (by decide) (by decide) (by decide) m1 (w0)
      refine h1.trans ?_
      obtain ⟨w2, h2⟩ := mw_miss len μ ν g (zF zT0 d) e96 e97 hg p n hl hp 7 3 (1) (by decide) (by decide) (by decide) m2 (w1)
      refine h2.trans ?_
      obtain ⟨w3, h3⟩ := mw_miss len μ ν g (zF zT0 d) e96 e97 hg p n hl hp 11 4 (2) (by decide) (by decide) (by decide) m3 (w2)
      refine h3.trans ?_
      obtain ⟨w4, h4⟩ := mw_miss len μ ν g (zF zT0 d) e96 e97 hg p n hl hp 16 4 (3) (by decide) (by decide) (by decide) m4 (w3)
      refine h4.trans ?_
      obtain ⟨w5, h5⟩ := mw_miss len μ ν g (zF zT0 d) e96 e97 hg p n hl hp 21 1 (4) (by decide) (by decide) (by decide) m5 (w4)
      refine h5.trans ?_
      obtain ⟨w6, h6⟩ := mw_miss len μ ν g (zF zT0 d) e96 e97 hg p n hl hp 23 1 (5) (by decide) (by decide) (by decide) m6 (w5)
      refine h6.trans ?_
      obtain ⟨w7, h7⟩ := mw_miss len μ ν g (zF zT0 d) e96 e97 hg p n hl hp 25 1 (6) (by decide) (by decide) (by decide) m7 (w6)
      refine h7.trans ?_
      obtain ⟨w8, h8⟩ := mw_miss len μ ν g (zF zT0 d) e96 e97 hg p n hl hp 27 1 (7) (by decide) (by decide) (by decide) m8 (w7)
      refine h8.trans ?_
      obtain ⟨w9, h9⟩ := mw_miss len μ ν g (zF zT0 d) e96 e97 hg p n hl hp 29 1 (8) (by decide) (by decide) (by decide) m9 (w8)
      refine h9.trans ?_
      obtain ⟨w10, h10⟩ := mw_miss len μ ν g (zF zT0 d) e96 e97 hg p n hl hp 31 1 (9) (by decide) (by decide) (by decide) m10 (w9)
      refine h10.trans ?_
      obtain ⟨w11, h11⟩ := mw_miss len μ ν g (zF zT0 d) e96 e97 hg p n hl hp 33 4 (10) (by decide) (by decide) (by decide) m11 (w10)
      refine h11.trans ?_
      obtain ⟨w12, h12⟩ := mw_miss len μ ν g (zF zT0 d) e96 e97 hg p n hl hp 38 4 (11) (by decide) (by decide) (by decide) m12 (w11)
      refine h12.trans ?_
      obtain ⟨w13, h13⟩ := mw_miss len μ ν g (zF zT0 d) e96 e97 hg p n hl hp 43 2 (12) (by decide) (by decide) (by decide) m13 (w12)
      refine h13.trans ?_
      exact mw_hit len μ ν g (zF zT0 d) e96 e97 hg p n hl hp 46 3 (13) (by decide) (by decide) (by decide) m14 (w13)
  by_cases m15 : MT g p n 50 3
  · refine ⟨15, by omega, ?_, ?_⟩
    · intro d len μ ν e7
      rw [B_X10_wordAt]
      refine (cw_miss d len μ ν g e7 hg p n 0 2 0 128 hp (by decide) (by decide) (by decide) (by decide) m0).trans ?_
      refine (cw_miss d len μ ν g e7 hg p n 3 3 3 129 hp (by decide) (by decide) (by decide) (by decide) m1).trans ?_
      refine (cw_miss d len μ ν g e7 hg p n 7 3 7 130 hp (by decide) (by decide) (by decide) (by decide) m2).trans ?_
      refine (cw_miss d len μ ν g e7 hg p n 11 4 11 131 hp (by decide) (by decide) (by decide) (by decide) m3).trans ?_
      refine (cw_miss d len μ ν g e7 hg p n 16 4 16 132 hp (by decide) (by decide) (by decide) (by decide) m4).trans ?_
      refine (cw_miss d len μ ν g e7 hg p n 21 4 33 133 hp (by decide) (by decide) (by decide) (by decide) m11).trans ?_
      refine (cw_miss d len μ ν g e7 hg p n 26 4 38 134 hp (by decide) (by decide) (by decide) (by decide) m12).trans ?_
      refine (cw_miss d len μ ν g e7 hg p n 31 2 43 135 hp (by decide) (by decide) (by decide) (by decide) m13).trans ?_
      refine (cw_miss d len μ ν g e7 hg p n 34 3 46 136 hp (by decide) (by decide) (by decide) (by decide) m14).trans ?_
      exact cw_hit d len μ ν g e7 hg p n 38 3 50 137 hp (by decide) (by decide) (by decide) (by decide) m15
    · intro d len μ ν e96 e97
      rw [B_X12_wordAt]
      obtain ⟨w0, h0⟩ := mw_miss len μ ν g (zF zT0 d) e96 e97 hg p n hl hp 0 2 (-1) (by decide) (by decide) (by decide) m0 (zU)
      refine h0.trans ?_
      obtain ⟨w1, h1⟩ := mw_miss len μ ν g (zF zT0 d) e96 e97 hg p n hl hp 3 3 (0) (by decide) (by decide) (by decide) m1 (w0)
      refine h1.trans ?_
      obtain ⟨w2, h2⟩ := mw_miss len μ ν g (zF zT0 d) e96 e97 hg p n hl hp 7 3 (1) (by decide) (by decide) (by decide) m2 (w1)
      refine h2.trans ?_
      obtain ⟨w3, h3⟩ := mw_miss len μ ν g (zF zT0 d) e96 e97 hg p n hl hp 11 4 (2) (by decide) (by decide) (by decide) m3 (w2)
      refine h3.trans ?_
      obtain ⟨w4, h4⟩ := mw_miss len μ ν g (zF zT0 d) e96 e97 hg p n hl hp 16 4 (3) (by decide) (by decide) (by decide) m4 (w3)
      refine h4.trans ?_
      obtain ⟨w5, h5⟩ := mw_miss len μ ν g (zF zT0 d) e96 e97 hg p n hl hp 21 1 (4) (by decide) (by decide) (by decide) m5 (w4)
      refine h5.trans ?_
      obtain ⟨w6, h6⟩ := mw_miss len μ ν g (zF zT0 d) e96 e97 hg p n hl hp 23 1 (5) (by decide) (by decide) (by decide) m6 (w5)
      refine h6.trans ?_
      obtain ⟨w7, h7⟩ := mw_miss len μ ν g (zF zT0 d) e96 e97 hg p n hl hp 25 1 (6) (by decide) (by decide) (by decide) m7 (w6)
      refine h7.trans ?_
      obtain ⟨w8, h8⟩ := mw_miss len μ ν g (zF zT0 d) e96 e97 hg p n hl hp 27 1 (7) (by decide) (by decide) (by decide) m8 (w7)
      refine h8.trans ?_
      obtain ⟨w9, h9⟩ := mw_miss len μ ν g (zF zT0 d) e96 e97 hg p n hl hp 29 1 (8) (by decide) (by decide) (by decide) m9 (w8)
      refine h9.trans ?_
      obtain ⟨w10, h10⟩ := mw_miss len μ ν g (zF zT0 d) e96 e97 hg p n hl hp 31 1 (9) (by decide) (by decide) (by decide) m10 (w9)
      refine h10.trans ?_
      obtain ⟨w11, h11⟩ := mw_miss len μ ν g (zF zT0 d) e96 e97 hg p n hl hp 33 4 (10) (by decide) (by decide) (by decide) m11 (w10)
      refine h11.trans ?_
      obtain ⟨w12, h12⟩ := mw_miss len μ ν g (zF zT0 d) e96 e97 hg p n hl hp 38 4 (11) (by decide) (by decide) (by decide) m12 (w11)
      refine h12.trans ?_
      obtain ⟨w13, h13⟩ := mw_miss len μ ν g (zF zT0 d) e96 e97 hg p n hl hp 43 2 (12) (by decide) (by decide) (by decide) m13 (w12)
      refine h13.trans ?_
      obtain ⟨w14, h14⟩ := mw_miss len μ ν g (zF zT0 d) e96 e97 hg p n hl hp 46 3 (13) (by decide) (by decide) (by decide) m14 (w13)
      refine h14.trans ?_
      exact mw_hit len μ ν g (zF zT0 d) e96 e97 hg p n hl hp 50 3 (14) (by decide) (by decide) (by decide) m15 (w14)
  by_cases m16 : MT g p n 54 4
  · refine ⟨16, by omega, ?_, ?_⟩
    · intro d len μ ν e7
      rw [B_X10_wordAt]
      refine (cw_miss d len μ ν g e7 hg p n 0 2 0 128 hp (by decide) (by decide) (by decide) (by decide) m0).trans ?_
      refine (cw_miss d len μ ν g e7 hg p n 3 3 3 129 hp (by decide) (by decide) (by decide) (by decide) m1).trans ?_
      refine (cw_miss d len μ ν g e7 hg p n 7 3 7 130 hp (by decide) (by decide) (by decide) (by decide) m2).trans ?_
      refine (cw_miss d len μ ν g e7 hg p n 11 4 11 131 hp (by decide) (by decide) (by decide) (by decide) m3).trans ?_
      refine (cw_miss d len μ ν g e7 hg p n 16 4 16 132 hp (by decide) (by decide) (by decide) (by decide) m4).trans ?_
      refine (cw_miss d len μ ν g e7 hg p n 21 4 33 133 hp (by decide) (by decide) (by decide) (by decide) m11).trans ?_
      refine (cw_miss d len μ ν g e7 hg p n 26 4 38 134 hp (by decide) (by decide) (by decide) (by decide) m12).trans ?_
      refine (cw_miss d len μ ν g e7 hg p n 31 2 43 135 hp (by decide) (by decide) (by decide) (by decide) m13).trans ?_
      refine (cw_miss d len μ ν g e7 hg p n 34 3 46 136 hp (by decide) (by decide) (by decide) (by decide) m14).trans ?_
      refine (cw_miss d len μ ν g e7 hg p n 38 3 50 137 hp (by decide) (by decide) (by decide) (by decide) m15).trans ?_
      exact cw_hit d len μ ν g e7 hg p n 42 4 54 138 hp (by decide) (by decide) (by decide) (by decide) m16
    · intro d len μ ν e96 e97
      rw [B_X12_wordAt]
      obtain ⟨w0, h0⟩ := mw_miss len μ ν g (zF zT0 d) e96 e97 hg p n hl hp 0 2 (-1) (by decide) (by decide) (by decide) m0 (zU)
      refine h0.trans ?_
      obtain ⟨w1, h1⟩ := mw_miss len μ ν g (zF zT0 d) e96 e97 hg p n hl hp 3 3 (0) (by decide) (by decide) (by decide) m1 (w0)
      refine h1.trans ?_
      obtain ⟨w2, h2⟩ := mw_miss len μ ν g (zF zT0 d) e96 e97 hg p n hl hp 7 3 (1) (by decide) (by decide) (by decide) m2 (w1)
      refine h2.trans ?_
      obtain ⟨w3, h3⟩ := mw_miss len μ ν g (zF zT0 d) e96 e97 hg p n hl hp 11 4 (2) (by decide) (by decide) (by decide) m3 (w2)
      refine h3.trans ?_
      obtain ⟨w4, h4⟩ := mw_miss len μ ν g (zF zT0 d) e96 e97 hg p n hl hp 16 4 (3) (by decide) (by decide) (by decide) m4 (w3)
      refine h4.trans ?_
      obtain ⟨w5, h5⟩ := mw_miss len μ ν g (zF zT0 d) e96 e97 hg p n hl hp 21 1 (4) (by decide) (by decide) (by decide) m5 (w4)
      refine h5.trans ?_
      obtain ⟨w6, h6⟩ := mw_miss len μ ν g (zF zT0 d) e96 e97 hg p n hl hp 23 1 (5) (by decide) (by decide) (by decide) m6 (w5)
      refine h6.trans ?_
      obtain ⟨w7, h7⟩ := mw_miss len μ ν g (zF zT0 d) e96 e97 hg p n hl hp 25 1 (6) (by decide) (by decide) (by decide) m7 (w6)
      refine h7.trans ?_
      obtain ⟨w8, h8⟩ := mw_miss len μ ν g (zF zT0 d) e96 e97 hg p n hl hp 27 1 (7) (by decide) (by decide) (by decide) m8 (w7)
      refine h8.trans ?_
      obtain ⟨w9, h9⟩ := mw_miss len μ ν g (zF zT0 d) e96 e97 hg p n hl hp 29 1 (8) (by decide) (by decide) (by decide) m9 (w8)
      refine h9.trans ?_
      obtain ⟨w10, h10⟩ := mw_miss len μ ν g (zF zT0 d) e96 e97 hg p n hl hp 31 1 (9) (by decide) (by decide) (by decide) m10 (w9)
      refine h10.trans ?_
      obtain ⟨w11, h11⟩ := mw_miss len μ ν g (zF zT0 d) e96 e97 hg p n hl hp 33 4 (10) (by decide) (by decide) (by decide) m11 (w10)
      refine h11.trans ?_
      obtain ⟨w12, h12⟩ := mw_miss len μ ν g (zF zT0 d) e96 e97 hg p n hl hp 38 4 (11) (by decide) (by decide) (by decide) m12 (w11)
      refine h12.trans ?_
      obtain ⟨w13, h13⟩ := mw_miss len μ ν g (zF zT0 d) e96 e97 hg p n hl hp 43 2 (12) (by decide) (by decide) (by decide) m13 (w12)
      refine h13.trans ?_
      obtain ⟨w14, h14⟩ := mw_miss len μ ν g (zF zT0 d) e96 e97 hg p n hl hp 46 3 (13) (by decide) (by decide) (by decide) m14 (w13)
      refine h14.trans ?_
      obtain ⟨w15, h15⟩ := mw_miss len μ ν g (zF zT0 d) e96 e97 hg p n hl hp 50 3 (14) (by decide) (by decide) (by decide) m15 (w14)
      refine h15.trans ?_
      exact mw_hit len μ ν g (zF zT0 d) e96 e97 hg p n hl hp 54 4 (15) (by decide) (by decide) (by decide) m16 (w15)
  by_cases m17 : MT g p n 59 3
  · refine ⟨17, by omega, ?_, ?_⟩
    · intro d len μ ν e7
      rw [B_X10_wordAt]
      refine (cw_miss d len μ ν g e7 hg p n 0 2 0 128 hp (by decide) (by decide) (by decide) (by decide) m0).trans ?_
      refine (cw_miss d len μ ν g e7 hg p n 3 3 3 129 hp (by decide) (by decide) (by decide) (by decide) m1).trans ?_
      refine (cw_miss d len μ ν g e7 hg p n 7 3 7 130 hp (by decide) (by decide) (by decide) (by decide) m2).trans ?_
      refine (cw_miss d len μ ν g e7 hg p n 11 4 11 131 hp (by decide) (by decide) (by decide) (by decide) m3).trans ?_
      refine (cw_miss d len μ ν g e7 hg p n 16 4 16 132 hp (by decide) (by decide) (by decide) (by decide) m4).trans ?_
      refine (cw_miss d len μ ν g e7 hg p n 21 4 33 133 hp (by decide) (by decide) (by decide) (by decide) m11).trans ?_
      refine (cw_miss d len μ ν g e7 hg p n 26 4 38 134 hp (by decide) (by decide) (by decide) (by decide) m12).trans ?_
      refine (cw_miss d len μ ν g e7 hg p n 31 2 43 135 hp (by decide) (by decide) (by decide) (by decide) m13).trans ?_
      refine (cw_miss d len μ ν g e7 hg p n 34 3 46 136 hp (by decide) (by decide) (by decide) (by decide) m14).trans ?_
      refine (cw_miss d len μ ν g e7 hg p n 38 3 50 137 hp (by decide) (by decide) (by decide) (by decide) m15).trans ?_
      refine (cw_miss d len μ ν g e7 hg p n 42 4 54 138 hp (by decide) (by decide) (by decide) (by decide) m16).trans ?_
      exact cw_hit d len μ ν g e7 hg p n 47 3 59 139 hp (by decide) (by decide) (by decide) (by decide) m17
    · intro d len μ ν e96 e97
      rw [B_X12_wordAt]
      obtain ⟨w0, h0⟩ := mw_miss len μ ν g (zF zT0 d) e96 e97 hg p n hl hp 0 2 (-1) (by decide) (by decide) (by decide) m0 (zU)
      refine h0.trans ?_
      obtain ⟨w1, h1⟩ := mw_miss len μ ν g (zF zT0 d) e96 e97 hg p n hl hp 3 3 (0) (by decide) (by decide) (by decide) m1 (w0)
      refine h1.trans ?_
      obtain ⟨w2, h2⟩ := mw_miss len μ ν g (zF zT0 d) e96 e97 hg p n hl hp 7 3 (1) (by decide) (by decide) (by decide) m2 (w1)
      refine h2.trans ?_
      obtain ⟨w3, h3⟩ := mw_miss len μ ν g (zF zT0 d) e96 e97 hg p n hl hp 11 4 (2) (by decide) (by decide) (by decide) m3 (w2)
      refine h3.trans ?_
      obtain ⟨w4, h4⟩ := mw_miss len μ ν g (zF zT0 d) e96 e97 hg p n hl hp 16 4 (3) (by decide) (by decide) (by decide) m4 (w3)
      refine h4.trans ?_
      obtain ⟨w5, h5⟩ := mw_miss len μ ν g (zF zT0 d) e96 e97 hg p n hl hp 21 1 (4) (by decide) (by decide) (by decide) m5 (w4)
      refine h5.trans ?_
      obtain ⟨w6, h6⟩ := mw_miss len μ ν g (zF zT0 d) e96 e97 hg p n hl hp 23 1 (5) (by decide) (by decide) (by decide) m6 (w5)
      refine h6.trans ?_
      obtain ⟨w7, h7⟩ := mw_miss len μ ν g (zF zT0 d) e96 e97 hg p n hl hp 25 1 (6) (by decide) (by decide) (by decide) m7 (w6)
      refine h7.trans ?_
      obtain ⟨w8, h8⟩ := mw_miss len μ ν g (zF zT0 d) e96 e97 hg p n hl hp 27 1 (7) (by decide) (by decide) (by decide) m8 (w7)
      refine h8.trans ?_
      obtain ⟨w9, h9⟩ := mw_miss len μ ν g (zF zT0 d) e96 e97 hg p n hl hp 29 1 (8) (by decide) (by decide) (by decide) m9 (w8)
      refine h9.trans ?_
      obtain ⟨w10, h10⟩ := mw_miss len μ ν g (zF zT0 d) e96 e97 hg p n hl hp 31 1 (9) (by decide) (by decide) (by decide) m10 (w9)
      refine h10.trans ?_
      obtain ⟨w11, h11⟩ := mw_miss len μ ν g (zF zT0 d) e96 e97 hg p n hl hp 33 4 (10) (by decide) (by decide) (by decide) m11 (w10)
      refine h11.trans ?_
      obtain ⟨w12, h12⟩ := mw_miss len μ ν g (zF zT0 d) e96 e97 hg p n hl hp 38 4 (11) (by decide) (by decide) (by decide) m12 (w11)
      refine h12.trans ?_
      obtain ⟨w13, h13⟩ := mw_miss len μ ν g (zF zT0 d) e96 e97 hg p n hl hp 43 2 (12) (by decide) (by decide) (by decide) m13 (w12)
      refine h13.trans ?_
      obtain ⟨w14, h14⟩ := mw_miss len μ ν g (zF zT0 d) e96 e97 hg p n hl hp 46 3 (13) (by decide) (by decide) (by decide) m14 (w13)
      refine h14.trans ?_
      obtain ⟨w15, h15⟩ := mw_miss len μ ν g (zF zT0 d) e96 e97 hg p n hl hp 50 3 (14) (by decide) (by decide) (by decide) m15 (w14)
      refine h15.trans ?_
      obtain ⟨w16, h16⟩ := mw_miss len μ ν g (zF zT0 d) e96 e97 hg p n hl hp 54 4 (15) (by decide) (by decide) (by decide) m16 (w15)
      refine h16.trans ?_
      exact mw_hit len μ ν g (zF zT0 d) e96 e97 hg p n hl hp 59 3 (16) (by decide) (by decide) (by decide) m17 (w16)
  by_cases m18 : MT g p n 63 4
  · refine ⟨18, by omega, ?_, ?_⟩
    · intro d len μ ν e7
      rw [B_X10_wordAt]
      refine (cw_miss d len μ ν g e7 hg p n 0 2 0 128 hp (by decide) (by decide) (by decide) (by decide) m0).trans ?_
      refine (cw_miss d len μ ν g e7 hg p n 3 3 3 129 hp (by decide) (by decide) (by decide) (by decide) m1).trans ?_
      refine (cw_miss d len μ ν g e7 hg p n 7 3 7 130 hp (by decide) (by decide) (by decide) (by decide) m2).trans ?_
      refine (cw_miss d len μ ν g e7 hg p n 11 4 11 131 hp (by decide) (by decide) (by decide) (by decide) m3).trans ?_
      refine (cw_miss d len μ ν g e7 hg p n 16 4 16 132 hp (by decide) (by decide) (by decide) (by decide) m4).trans ?_
      refine (cw_miss d len μ ν g e7 hg p n 21 4 33 133 hp (by decide) (by decide) (by decide) (by decide) m11).trans ?_
      refine (cw_miss d len μ ν g e7 hg p n 26 4 38 134 hp (by decide) (by decide) (by decide) (by decide) m12).trans ?_
      refine (cw_miss d len μ ν g e7 hg p n 31 2 43 135 hp (by decide) (by decide) (by decide) (by decide) m13).trans ?_
      refine (cw_miss d len μ ν g e7 hg p n 34 3 46 136 hp (by decide) (by decide) (by decide) (by decide) m14).trans ?_
      refine (cw_miss d len μ ν g e7 hg p n 38 3 50 137 hp (by decide) (by decide) (by decide) (by decide) m15).trans ?_
      refine (cw_miss d len μ ν g e7 hg p n 42 4 54 138 hp (by decide) (by decide) (by decide) (by decide) m16).trans ?_
      refine (cw_miss d len μ ν g e7 hg p n 47 3 59 139 hp (by decide) (by decide) (by decide) (by decide) m17).trans ?_
      exact cw_hit d len μ ν g e7 hg p n 51 4 63 140 hp (by decide) (by decide) (by decide) (by decide) m18
    · intro d len μ ν e96 e97
      rw [B_X12_wordAt]
      obtain ⟨w0, h0⟩ := mw_miss len μ ν g (zF zT0 d) e96 e97 hg p n hl hp 0 2 (-1) (by decide) (by decide) (by decide) m0 (zU)
      refine h0.trans ?_
      obtain ⟨w1, h1⟩ := mw_miss len μ ν g (zF zT0 d) e96 e97 hg p n hl hp 3 3 (0) (by decide) (by decide) (by decide) m1 (w0)
      refine h1.trans ?_
      obtain ⟨w2, h2⟩ := mw_miss len μ ν g (zF zT0 d) e96 e97 hg p n hl hp 7 3 (1) (by decide) (by decide) (by decide) m2 (w1)
      refine h2.trans ?_
      obtain ⟨w3, h3⟩ := mw_miss len μ ν g (zF zT0 d) e96 e97 hg p n hl hp 11 4 (2) (by decide) (by decide) (by decide) m3 (w2)
      refine h3.trans ?_
      obtain ⟨w4, h4⟩ := mw_miss len μ ν g (zF zT0 d) e96 e97 hg p n hl hp 16 4 (3) (by decide) (by decide) (by decide) m4 (w3)
      refine h4.trans ?_
      obtain ⟨w5, h5⟩ := mw_miss len μ ν g (zF zT0 d) e96 e97 hg p n hl hp 21 1 (4) (by decide) (by decide) (by decide) m5 (w4)
      refine h5.trans ?_
      obtain ⟨w6, h6⟩ := mw_miss len μ ν g (zF zT0 d) e96 e97 hg p n hl hp 23 1 (5) (by decide) (by decide) (by decide) m6 (w5)
      refine h6.trans ?_
      obtain ⟨w7, h7⟩ := mw_miss len μ ν g (zF zT0 d) e96 e97 hg p n hl hp 25 1 (6) (by decide) (by decide) (by decide) m7 (w6)
      refine h7.trans ?_
      obtain ⟨w8, h8⟩ := mw_miss len μ ν g (zF zT0 d) e96 e97 hg p n hl hp 27 1 (7) (by decide) (by decide) (by decide) m8 (w7)
      refine h8.trans ?_
      obtain ⟨w9, h9⟩ := mw_miss len μ ν g (zF zT0 d) e96 e97 hg p n hl hp 29 1 (8) (by decide) (by decide) (by decide) m9 (w8)
      refine h9.trans ?_
      obtain ⟨w10, h10⟩ := mw_miss len μ ν g (zF zT0 d) e96 e97 hg p n hl hp 31 1 (9) (by decide) (by decide) (by decide) m10 (w9)
      refine h10.trans ?_
      obtain ⟨w11, h11⟩ := mw_miss len μ ν g (zF zT0 d) e96 e97 hg p n hl hp 33 4 (10) (by decide) (by decide) (by decide) m11 (w10)
      refine h11.trans ?_
      obtain ⟨w12, h12⟩ := mw_miss len μ ν g (zF zT0 d) e96 e97 hg p n hl hp 38 4 (11) (by decide) (by decide) (by decide) m12 (w11)
      refine h12.trans ?_
      obtain ⟨w13, h13⟩ := mw_miss len μ ν g (zF zT0 d) e96 e97 hg p n hl hp 43 2 (12) (by decide) (by decide) (by decide) m13 (w12)
      refine h13.trans ?_
      obtain ⟨w14, h14⟩ := mw_miss len μ ν g (zF zT0 d) e96 e97 hg p n hl hp 46 3 (13) (by decide) (by decide) (by decide) m14 (w13)
      refine h14.trans ?_
      obtain ⟨w15, h15⟩ := mw_miss len μ ν g (zF zT0 d) e96 e97 hg p n hl hp 50 3 (14) (by decide) (by decide) (by decide) m15 (w14)
      refine h15.trans ?_
      obtain ⟨w16, h16⟩ := mw_miss len μ ν g (zF zT0 d) e96 e97 hg p n hl hp 54 4 (15) (by decide) (by decide) (by decide) m16 (w15)
      refine h16.trans ?_
      obtain ⟨w17, h17⟩ := mw_miss len μ ν g (zF zT0 d) e96 e97 hg p n hl hp 59 3 (16) (by decide) (by decide) (by decide) m17 (w16)
      refine h17.trans ?_
      exact mw_hit len μ ν g (zF zT0 d) e96 e97 hg p n hl hp 63 4 (17) (by decide) (by decide) (by decide) m18 (w17)
  by_cases m19 : MT g p n 68 4
  · refine ⟨19, by omega, ?_, ?_⟩
    · intro d len μ ν e7
      rw [B_X10_wordAt]
      refine (cw_miss d len μ ν g e7 hg p n 0 2 0 128 hp (by decide) (by decide) (by decide) (by decide) m0).trans ?_
      refine (cw_miss d len μ ν g e7 hg p n 3 3 3 129 hp (by decide) (by decide) (by decide) (by decide) m1).trans ?_
      refine (cw_miss d len μ ν g e7 hg p n 7 3 7 130 hp (by decide) (by decide) (by decide) (by decide) m2).trans ?_
      refine (cw_miss d len μ ν g e7 hg p n 11 4 11 131 hp (by decide) (by decide) (by decide) (by decide) m3).trans ?_
      refine (cw_miss d len μ ν g e7 hg p n 16 4 16 132 hp (by decide) (by decide) (by decide) (by decide) m4).trans ?_
      refine (cw_miss d len μ ν g e7 hg p n 21 4 33 133 hp (by decide) (by decide) (by decide) (by decide) m11).trans ?_
      refine (cw_miss d len μ ν g e7 hg p n 26 4 38 134 hp (by decide) (by decide) (by decide) (by decide) m12).trans ?_
      refine (cw_miss d len μ ν g e7 hg p n 31 2 43 135 hp (by decide) (by decide) (by decide) (by decide) m13).trans ?_
      refine (cw_miss d len μ ν g e7 hg p n 34 3 46 136 hp (by decide) (by decide) (by decide) (by decide) m14).trans ?_
      refine (cw_miss d len μ ν g e7 hg p n 38 3 50 137 hp (by decide) (by decide) (by decide) (by decide) m15).trans ?_
      refine (cw_miss d len μ ν g e7 hg p n 42 4 54 138 hp (by decide) (by decide) (by decide) (by decide) m16).trans ?_
      refine (cw_miss d len μ ν g e7 hg p n 47 3 59 139 hp (by decide) (by decide) (by decide) (by decide) m17).trans ?_
      refine (cw_miss d len μ ν g e7 hg p n 51 4 63 140 hp (by decide) (by decide) (by decide) (by decide) m18).trans ?_
      exact cw_hit d len μ ν g e7 hg p n 56 4 68 141 hp (by decide) (by decide) (by decide) (by decide) m19
    · intro d len μ ν e96 e97
      rw [B_X12_wordAt]
      obtain ⟨w0, h0⟩ := mw_miss len μ ν g (zF zT0 d) e96 e97 hg p n hl hp 0 2 (-1) (by decide) (by decide) (by decide) m0 (zU)
      refine h0.trans ?_
      obtain ⟨w1, h1⟩ := mw_miss len μ ν g (zF zT0 d) e96 e97 hg p n hl hp 3 3 (0) (by decide) (by decide) (by decide) m1 (w0)
      refine h1.trans ?_
      obtain ⟨w2, h2⟩ := mw_miss len μ ν g (zF zT0 d) e96 e97 hg p n hl hp 7 3 (1) (by decide) (by decide) (by decide) m2 (w1)
      refine h2.trans ?_
      obtain ⟨w3, h3⟩ := mw_miss len μ ν g (zF zT0 d) e96 e97 hg p n hl hp 11 4 (2) (by decide) (by decide) (by decide) m3 (w2)
      refine h3.trans ?_
      obtain ⟨w4, h4⟩ := mw_miss len μ ν g (zF zT0 d) e96 e97 hg p n hl hp 16 4 (3) (by decide) (by decide) (by decide) m4 (w3)
      refine h4.trans ?_
      obtain ⟨w5, h5⟩ := mw_miss len μ ν g (zF zT0 d) e96 e97 hg p n hl hp 21 1 (4) (by decide) (by decide) (by decide) m5 (w4)
      refine h5.trans ?_
      obtain ⟨w6, h6⟩ := mw_miss len μ ν g (zF zT0 d) e96 e97 hg p n hl hp 23 1 (5) (by decide) (by decide) (by decide) m6 (w5)
      refine h6.trans ?_
      obtain ⟨w7, h7⟩ := mw_miss len μ ν g (zF zT0 d) e96 e97 hg p n hl hp 25 1 (6) (by decide) (by decide) (by decide) m7 (w6)
      refine h7.trans ?_
      obtain ⟨w8, h8⟩ := mw_miss len μ ν g (zF zT0 d) e96 e97 hg p n hl hp 27 1 (7) (by decide) (by decide) (by decide) m8 (w7)
      refine h8.trans ?_
      obtain ⟨w9, h9⟩ := mw_miss len μ ν g (zF zT0 d) e96 e97 hg p n hl hp 29 1 (8) (by decide) (by decide) (by decide) m9 (w8)
      refine h9.trans ?_
      obtain ⟨w10, h10⟩ := mw_miss len μ ν g (zF zT0 d) e96 e97 hg p n hl hp 31 1 (9) (by decide) (by decide) (by decide) m10 (w9)
      refine h10.trans ?_
      obtain ⟨w11, h11⟩ := mw_miss len μ ν g (zF zT0 d) e96 e97 hg p n hl hp 33 4 (10) (by decide) (by decide) (by decide) m11 (w10)
      refine h11.trans ?_
      obtain ⟨w12, h12⟩ := mw_miss len μ ν g (zF zT0 d) e96 e97 hg p n hl hp 38 4 (11) (by decide) (by decide) (by decide) m12 (w11)
      refine h12.trans ?_
      obtain ⟨w13, h13⟩ := mw_miss len μ ν g (zF zT0 d) e96 e97 hg p n hl hp 43 2 (12) (by decide) (by decide) (by decide) m13 (w12)
      refine h13.trans ?_
      obtain ⟨w14, h14⟩ := mw_miss len μ ν g (zF zT0 d) e96 e97 hg p n hl hp 46 3 (13) (by decide) (by decide) (by decide) m14 (w13)
      refine h14.trans ?_
      obtain ⟨w15, h15⟩ := mw_miss len μ ν g (zF zT0 d) e96 e97 hg p n hl hp 50 3 (14) (by decide) (by decide) (by decide) m15 (w14)
      refine h15.trans ?_
      obtain ⟨w16, h16⟩ := mw_miss len μ ν g (zF zT0 d) e96 e97 hg p n hl hp 54 4 (15) (by decide) (by decide) (by decide) m16 (w15)
      refine h16.trans ?_
      obtain ⟨w17, h17⟩ := mw_miss len μ ν g (zF zT0 d) e96 e97 hg p n hl hp 59 3 (16) (by decide) (by decide) (by decide) m17 (w16)
      refine h17.trans ?_
      obtain ⟨w18, h18⟩ := mw_miss len μ ν g (zF zT0 d) e96 e97 hg p n hl hp 63 4 (17) (by decide) (by decide) (by decide) m18 (w17)
      refine h18.trans ?_
      exact mw_hit len μ ν g (zF zT0 d) e96 e97 hg p n hl hp 68 4 (18) (by decide) (by decide) (by decide) m19 (w18)
  by_cases m20 : MT g p n 73 5
  · refine ⟨20, by omega, ?_, ?_⟩
    · intro d len μ ν e7
      rw [B_X10_wordAt]
      refine (cw_miss d len μ ν g e7 hg p n 0 2 0 128 hp (by decide) (by decide) (by decide) (by decide) m0).trans ?_
      refine (cw_miss d len μ ν g e7 hg p n 3 3 3 129 hp (by decide) (by decide) (by decide) (by decide) m1).trans ?_
      refine (cw_miss d len μ ν g e7 hg p n 7 3 7 130 hp (by decide) (by decide) (by decide) (by decide) m2).trans ?_
      refine (cw_miss d len μ ν g e7 hg p n 11 4 11 131 hp (by decide) (by decide) (by decide) (by decide) m3).trans ?_
      refine (cw_miss d len μ ν g e7 hg p n 16 4 16 132 hp (by decide) (by decide) (by decide) (by decide) m4).trans ?_
      refine (cw_miss d len μ ν g e7 hg p n 21 4 33 133 hp (by decide) (by decide) (by decide) (by decide) m11).trans ?_
      refine (cw_miss d len μ ν g e7 hg p n 26 4 38 134 hp (by decide) (by decide) (by decide) (by decide) m12).trans ?_
      refine (cw_miss d len μ ν g e7 hg p n 31 2 43 135 hp (by decide) (by decide) (by decide) (by decide) m13).trans ?_
      refine (cw_miss d len μ ν g e7 hg p n 34 3 46 136 hp (by decide) (by decide) (by decide) (by decide) m14).trans ?_
      refine (cw_miss d len μ ν g e7 hg p n 38 3 50 137 hp (by decide) (by decide) (by decide) (by decide) m15).trans ?_
      refine (cw_miss d len μ ν g e7 hg p n 42 4 54 138 hp (by decide) (by decide) (by decide) (by decide) m16).trans ?_
      refine (cw_miss d len μ ν g e7 hg p n 47 3 59 139 hp (by decide) (by decide) (by decide) (by decide) m17).trans ?_
      refine (cw_miss d len μ ν g e7 hg p n 51 4 63 140 hp (by decide) (by decide) (by decide) (by decide) m18).trans ?_
      refine (cw_miss d len μ ν g e7 hg p n 56 4 68 141 hp (by decide) (by decide) (by decide) (by decide) m19).trans ?_
      exact cw_hit d len μ ν g e7 hg p n 61 5 73 142 hp (by decide) (by decide) (by decide) (by decide) m20
    · intro d len μ ν e96 e97
      rw [B_X12_wordAt]
      obtain ⟨w0, h0⟩ := mw_miss len μ ν g (zF zT0 d) e96 e97 hg p n hl hp 0 2 (-1) (by decide) (by decide) (by decide) m0 (zU)
      refine h0.trans ?_
      obtain ⟨w1, h1⟩ := mw_miss len μ ν g (zF zT0 d) e96 e97 hg p n hl hp 3 3 (0) (by decide) (by decide) (by decide) m1 (w0)
      refine h1.trans ?_
      obtain ⟨w2, h2⟩ := mw_miss len μ ν g (zF zT0 d) e96 e97 hg p n hl hp 7 3 (1) (by decide) (by decide) (by decide) m2 (w1)
      refine h2.trans ?_
      obtain ⟨w3, h3⟩ := mw_miss len μ ν g (zF zT0 d) e96 e97 hg p n hl hp 11 4 (2) (by decide) (by decide) (by decide) m3 (w2)
      refine h3.trans ?_
      obtain ⟨w4, h4⟩ := mw_miss len μ ν g (zF zT0 d) e96 e97 hg p n hl hp 16 4 (3) (by decide) (by decide) (by decide) m4 (w3)
      refine h4.trans ?_
      obtain ⟨w5, h5⟩ := mw_miss len μ ν g (zF zT0 d) e96 e97 hg p n hl hp 21 1 (4) (by decide) (by decide) (by decide) m5 (w4)
      refine h5.trans ?_
      obtain ⟨w6, h6⟩ := mw_miss len μ ν g (zF zT0 d) e96 e97 hg p n hl hp 23 1 (5) (by decide) (by decide) (by decide) m6 (w5)
      refine h6.trans ?_
      obtain ⟨w7, h7⟩ := mw_miss len μ ν g (zF zT0 d) e96 e97 hg p n hl hp 25 1 (6) (by decide) (by decide) (by decide) m7 (w6)
      refine h7.trans ?_
      obtain ⟨w8, h8⟩ := mw_miss len μ ν g (zF zT0 d) e96 e97 hg p n hl hp 27 1 (7) (by decide) (by decide) (by decide) m8 (w7)
      refine h8.trans ?_
      obtain ⟨w9, h9⟩ := mw_miss len μ ν g (zF zT0 d) e96 e97 hg p n hl hp 29 1 (8) (by decide) (by decide) (by decide) m9 (w8)
      refine h9.trans ?_
      obtain ⟨w10, h10⟩ := mw_miss len μ ν g (zF zT0 d) e96 e97 hg p n hl hp 31 1 (9) (by decide) (by decide) (by decide) m10 (w9)
      refine h10.trans ?_
      obtain ⟨w11, h11⟩ := mw_miss len μ ν g (zF zT0 d) e96 e97 hg p n hl hp 33 4 (10) (by decide) (by decide) (by decide) m11 (w10)
      refine h11.trans ?_
      obtain ⟨w12, h12⟩ := mw_miss len μ ν g (zF zT0 d) e96 e97 hg p n hl hp 38 4 (11) (by decide) (by decide) (by decide) m12 (w11)
      refine h12.trans ?_
      obtain ⟨w13, h13⟩ := mw_miss len μ ν g (zF zT0 d) e96 e97 hg p n hl hp 43 2 (12) (by decide) (by decide) (by decide) m13 (w12)
      refine h13.trans ?_
      obtain ⟨w14, h14⟩ := mw_miss len μ ν g (zF zT0 d) e96 e97 hg p n hl hp 46 3 (13) (by decide) (by decide) (by decide) m14 (w13)
      refine h14.trans ?_
      obtain ⟨w15, h15⟩ := mw_miss len μ ν g (zF zT0 d) e96 e97 hg p n hl hp 50 3 (14) (by decide) (by decide) (by decide) m15 (w14)
      refine h15.trans ?_
      obtain ⟨w16, h16⟩ := mw_miss len μ ν g (zF zT0 d) e96 e97 hg p n hl hp 54 4 (15) (by decide) (by decide) (by decide) m16 (w15)
      refine h16.trans ?_
      obtain ⟨w17, h17⟩ := mw_miss len μ ν g (zF zT0 d) e96 e97 hg p n hl hp 59 3 (16) (by decide) (by decide) (by decide) m17 (w16)
      refine h17.trans ?_
      obtain ⟨w18, h18⟩ := mw_miss len μ ν g (zF zT0 d) e96 e97 hg p n hl hp 63 4 (17) (by decide) (by decide) (by decide) m18 (w17)
      refine h18.trans ?_
      obtain ⟨w19, h19⟩ := mw_miss len μ ν g (zF zT0 d) e96 e97 hg p n hl hp 68 4 (18) (by decide) (by decide) (by decide) m19 (w18)
      refine h19.trans ?_
      exact mw_hit len μ ν g (zF zT0 d) e96 e97 hg p n hl hp 73 5 (19) (by decide) (by decide) (by decide) m20 (w19)
  · refine ⟨-1, by omega, ?_, ?_⟩
    · intro d len μ ν e7
      rw [B_X10_wordAt]
      refine (cw_miss d len μ ν g e7 hg p n 0 2 0 128 hp (by decide) (by decide) (by decide) (by decide) m0).trans ?_
      refine (cw_miss d len μ ν g e7 hg p n 3 3 3 129 hp (by decide) (by decide) (by decide) (by decide) m1).trans ?_
      refine (cw_miss d len μ ν g e7 hg p n 7 3 7 130 hp (by decide) (by decide) (by decide) (by decide) m2).trans ?_
      refine (cw_miss d len μ ν g e7 hg p n 11 4 11 131 hp (by decide) (by decide) (by decide) (by decide) m3).trans ?_
      refine (cw_miss d len μ ν g e7 hg p n 16 4 16 132 hp (by decide) (by decide) (by decide) (by decide) m4).trans ?_
      refine (cw_miss d len μ ν g e7 hg p n 21 4 33 133 hp (by decide) (by decide) (by decide) (by decide) m11).trans ?_
      refine (cw_miss d len μ ν g e7 hg p n 26 4 38 134 hp (by decide) (by decide) (by decide) (by decide) m12).trans ?_
      refine (cw_miss d len μ ν g e7 hg p n 31 2 43 135 hp (by decide) (by decide) (by decide) (by decide) m13).trans ?_
      refine (cw_miss d len μ ν g e7 hg p n 34 3 46 136 hp (by decide) (by decide) (by decide) (by decide) m14).trans ?_
      refine (cw_miss d len μ ν g e7 hg p n 38 3 50 137 hp (by decide) (by decide) (by decide) (by decide) m15).trans ?_
      refine (cw_miss d len μ ν g e7 hg p n 42 4 54 138 hp (by decide) (by decide) (by decide) (by decide) m16).trans ?_
      refine (cw_miss d len μ ν g e7 hg p n 47 3 59 139 hp (by decide) (by decide) (by decide) (by decide) m17).trans ?_
      refine (cw_miss d len μ ν g e7 hg p n 51 4 63 140 hp (by decide) (by decide) (by decide) (by decide) m18).trans ?_
      refine (cw_miss d len μ ν g e7 hg p n 56 4 68 141 hp (by decide) (by decide) (by decide) (by decide) m19).trans ?_
      refine (cw_miss d len μ ν g e7 hg p n 61 5 73 142 hp (by decide) (by decide) (by decide) (by decide) m20).trans ?_
      exact cw_end d len μ ν p n 143
    · intro d len μ ν e96 e97
      rw [B_X12_wordAt]
      obtain ⟨w0, h0⟩ := mw_miss len μ ν g (zF zT0 d) e96 e97 hg p n hl hp 0 2 (-1) (by decide) (by decide) (by decide) m0 (zU)
      refine h0.trans ?_
      obtain ⟨w1, h1⟩ := mw_miss len μ ν g (zF zT0 d) e96 e97 hg p n hl hp 3 3 (0) (by decide) (by decide) (by decide) m1 (w0)
      refine h1.trans ?_
      obtain ⟨w2, h2⟩ := mw_miss len μ ν g (zF zT0 d) e96 e97 hg p n hl hp 7 3 (1) (by decide) (by decide) (by decide) m2 (w1)
      refine h2.trans ?_
      obtain ⟨w3, h3⟩ := mw_miss len μ ν g (zF zT0 d) e96 e97 hg p n hl hp 11 4 (2) (by decide) (by decide) (by decide) m3 (w2)
      refine h3.trans ?_
      obtain ⟨w4, h4⟩ := mw_miss len μ ν g (zF zT0 d) e96 e97 hg p n hl hp 16 4 (3) (by decide) (by decide) (by decide) m4 (w3)
      refine h4.trans ?_
      obtain ⟨w5, h5⟩ := mw_miss len μ ν g (zF zT0 d) e96 e97 hg p n hl hp 21 1 (4) (by decide) (by decide) (by decide) m5 (w4)
      refine h5.trans ?_
      obtain ⟨w6, h6⟩ := mw_miss len μ ν g (zF zT0 d) e96 e97 hg p n hl hp 23 1 (5) (by decide) (by decide) (by decide) m6 (w5)
      refine h6.trans ?_
      obtain ⟨w7, h7⟩ := mw_miss len μ ν g (zF zT0 d) e96 e97 hg p n hl hp 25 1 (6) (by decide) (by decide) (by decide) m7 (w6)
      refine h7.trans ?_
      obtain ⟨w8, h8⟩ := mw_miss len μ ν g (zF zT0 d) e96 e97 hg p n hl hp 27 1 (7) (by decide) (by decide) (by decide) m8 (w7)
      refine h8.trans ?_
      obtain ⟨w9, h9⟩ := mw_miss len μ ν g (zF zT0 d) e96 e97 hg p n hl hp 29 1 (8) (by decide) (by decide) (by decide) m9 (w8)
      refine h9.trans ?_
      obtain ⟨w10, h10⟩ := mw_miss len μ ν g (zF zT0 d) e96 e97 hg p n hl hp 31 1 (9) (by decide) (by decide) (by decide) m10 (w9)
      refine h10.trans ?_
      obtain ⟨w11, h11⟩ := mw_miss len μ ν g (zF zT0 d) e96 e97 hg p n hl hp 33 4 (10) (by decide) (by decide) (by decide) m11 (w10)
      refine h11.trans ?_
      obtain ⟨w12, h12⟩ := mw_miss len μ ν g (zF zT0 d) e96 e97 hg p n hl hp 38 4 (11) (by decide) (by decide) (by decide) m12 (w11)
      refine h12.trans ?_
      obtain ⟨w13, h13⟩ := mw_miss len μ ν g (zF zT0 d) e96 e97 hg p n hl hp 43 2 (12) (by decide) (by decide) (by decide) m13 (w12)
      refine h13.trans ?_
      obtain ⟨w14, h14⟩ := mw_miss len μ ν g (zF zT0 d) e96 e97 hg p n hl hp 46 3 (13) (by decide) (by decide) (by decide) m14 (w13)
      refine h14.trans ?_
      obtain ⟨w15, h15⟩ := mw_miss len μ ν g (zF zT0 d) e96 e97 hg p n hl hp 50 3 (14) (by decide) (by decide) (by decide) m15 (w14)
      refine h15.trans ?_
      obtain ⟨w16, h16⟩ := mw_miss len μ ν g (zF zT0 d) e96 e97 hg p n hl hp 54 4 (15) (by decide) (by decide) (by decide) m16 (w15)
      refine h16.trans ?_
      obtain ⟨w17, h17⟩ := mw_miss len μ ν g (zF zT0 d) e96 e97 hg p n hl hp 59 3 (16) (by decide) (by decide) (by decide) m17 (w16)
      refine h17.trans ?_
      obtain ⟨w18, h18⟩ := mw_miss len μ ν g (zF zT0 d) e96 e97 hg p n hl hp 63 4 (17) (by decide) (by decide) (by decide) m18 (w17)
      refine h18.trans ?_
      obtain ⟨w19, h19⟩ := mw_miss len μ ν g (zF zT0 d) e96 e97 hg p n hl hp 68 4 (18) (by decide) (by decide) (by decide) m19 (w18)
      refine h19.trans ?_
      obtain ⟨w20, h20⟩ := mw_miss len μ ν g (zF zT0 d) e96 e97 hg p n hl hp 73 5 (19) (by decide) (by decide) (by decide) m20 (w19)
      refine h20.trans ?_
      refine (B_X12_wordAt_5 _ _ _ _ _ _ _ _ _).trans ?_
      exact if_pos (by decide)
theorem letter_ok (g : Nat → Int) (hg : ∀ i, 0 ≤ g i ∧ g i ≤ 255) (p : Nat) (hp : p + 1 ≤ 800) (h : 97 ≤ g p ∧ g p ≤ 102) (d len : Nat) (μ : zMu) (ν : zNu) (e96 : ∀ i, μ 96 i = zi (g i)) (e97 : ∀ i : Nat, i < 80 → μ 97 i = zi (mch i)) : zF zT0 (d + 1) 200 [.ref 92, .int (zi (p : Int)), .int (zi ((p : Int) + 1))] (zm len μ ν) = some (.int (zi (g p - 92)), zm len μ ν) := by
  have hl : ∀ i, i < 1 → 65 ≤ g (p + i) := fun i hi => by
    have : i = 0 := by omega
    rw [this, Nat.add_zero]
    omega
  obtain ⟨n, hn⟩ : ∃ n : Nat, n = 1 := ⟨1, rfl⟩
  rw [← hn] at hp hl
  have cn : ((p : Int) + 1) = (p : Int) + (n : Int) := by omega
  rw [cn]
  have m0 : ¬ MT g p n 0 2 := fun z => by have := z.1; omega
  have m1 : ¬ MT g p n 3 3 := fun z => by have := z.1; omega
  have m2 : ¬ MT g p n 7 3 := fun z => by have := z.1; omega
  have m3 : ¬ MT g p n 11 4 := fun z => by have := z.1; omega
  have m4 : ¬ MT g p n 16 4 := fun z => by have := z.1; omega
  have M5 : MT g p n 21 1 ↔ g p = 97 := ⟨fun z => by
      have := z.2 0 (by omega)
      have e : mch (21 + 1 + 0) = 97 := by decide
      rw [e, Nat.add_zero] at this
      exact this, fun z => ⟨hn, fun i hi => by
      have : i = 0 := by omega
      rw [this, Nat.add_zero, z]
      decide⟩⟩
  have M6 : MT g p n 23 1 ↔ g p = 98 := ⟨fun z => by
      have := z.2 0 (by omega)
      have e : mch (23 + 1 + 0) = 98 := by decide
      rw [e, Nat.add_zero] at this
      exact this, fun z => ⟨hn, fun i hi => by
      have : i = 0 := by omega
      rw [this, Nat.add_zero, z]
      decide⟩⟩
  have M7 : MT g p n 25 1 ↔ g p = 99 := ⟨fun z => by
      have := z.2 0 (by omega)
      have e : mch (25 + 1 + 0) = 99 := by decide
      rw [e, Nat.add_zero] at this
      exact this, fun z => ⟨hn, fun i hi => by
      have : i = 0 := by omega
      rw [this, Nat.add_zero, z]
      decide⟩⟩
  have M8 : MT g p n 27 1 ↔ g p = 100 := ⟨fun z => by
      have := z.2 0 (by omega)
      have e : mch (27 + 1 + 0) = 100 := by decide
      rw [e, Nat.add_zero] at this
      exact this, fun z => ⟨hn, fun i hi => by
      have : i = 0 := by omega
      rw [this, Nat.add_zero, z]
      decide⟩⟩
  have M9 : MT g p n 29 1 ↔ g p = 101 := ⟨fun z => by
      have := z.2 0 (by omega)
      have e : mch (29 + 1 + 0) = 101 := by decide
      rw [e, Nat.add_zero] at this
      exact this, fun z => ⟨hn, fun i hi => by
      have : i = 0 := by omega
      rw [this, Nat.add_zero, z]
      decide⟩⟩
  have M10 : MT g p n 31 1 ↔ g p = 102 := ⟨fun z => by
      have := z.2 0 (by omega)
      have e : mch (31 + 1 + 0) = 102 := by decide
      rw [e, Nat.add_zero] at this
      exact this, fun z => ⟨hn, fun i hi => by
      have : i = 0 := by omega
      rw [this, Nat.add_zero, z]
      decide⟩⟩
  rw [B_X12_wordAt]
  obtain ⟨w0, h0⟩ := mw_miss len μ ν g (zF zT0 d) e96 e97 hg p n hl hp 0 2 (-1) (by decide) (by decide) (by decide) m0 (zU)
  refine h0.trans ?_
  obtain ⟨w1, h1⟩ := mw_miss len μ ν g (zF zT0 d) e96 e97 hg p n hl hp 3 3 (0) (by decide) (by decide) (by decide) m1 (w0)
  refine h1.trans ?_
  obtain ⟨w2, h2⟩ := mw_miss len μ ν g (zF zT0 d) e96 e97 hg p n hl hp 7 3 (1) (by decide) (by decide) (by decide) m2 (w1)
  refine h2.trans ?_
  obtain ⟨w3, h3⟩ := mw_miss len μ ν g (zF zT0 d) e96 e97 hg p n hl hp 11 4 (2) (by decide) (by decide) (by decide) m3 (w2)
  refine h3.trans ?_
  obtain ⟨w4, h4⟩ := mw_miss len μ ν g (zF zT0 d) e96 e97 hg p n hl hp 16 4 (3) (by decide) (by decide) (by decide) m4 (w3)
  refine h4.trans ?_
  by_cases c5 : g p = 97
  · rw [show g p - 92 = 5 by omega]
    exact mw_hit len μ ν g (zF zT0 d) e96 e97 hg p n hl hp 21 1 (4) (by decide) (by decide) (by decide) (M5.mpr c5) (w4)
  obtain ⟨w5, h5⟩ := mw_miss len μ ν g (zF zT0 d) e96 e97 hg p n hl hp 21 1 (4) (by decide) (by decide) (by decide) (fun z => c5 (M5.mp z)) (w4)
  refine h5.trans ?_
  by_cases c6 : g p = 98
  · rw [show g p - 92 = 6 by omega]
    exact mw_hit len μ ν g (zF zT0 d) e96 e97 hg p n hl hp 23 1 (5) (by decide) (by decide) (by decide) (M6.mpr c6) (w5)
  obtain ⟨w6, h6⟩ := mw_miss len μ ν g (zF zT0 d) e96 e97 hg p n hl hp 23 1 (5) (by decide) (by decide) (by decide) (fun z => c6 (M6.mp z)) (w5)
  refine h6.trans ?_
  by_cases c7 : g p = 99
  · rw [show g p - 92 = 7 by omega]
    exact mw_hit len μ ν g (zF zT0 d) e96 e97 hg p n hl hp 25 1 (6) (by decide) (by decide) (by decide) (M7.mpr c7) (w6)
  obtain ⟨w7, h7⟩ := mw_miss len μ ν g (zF zT0 d) e96 e97 hg p n hl hp 25 1 (6) (by decide) (by decide) (by decide) (fun z => c7 (M7.mp z)) (w6)
  refine h7.trans ?_
  by_cases c8 : g p = 100
  · rw [show g p - 92 = 8 by omega]
    exact mw_hit len μ ν g (zF zT0 d) e96 e97 hg p n hl hp 27 1 (7) (by decide) (by decide) (by decide) (M8.mpr c8) (w7)
  obtain ⟨w8, h8⟩ := mw_miss len μ ν g (zF zT0 d) e96 e97 hg p n hl hp 27 1 (7) (by decide) (by decide) (by decide) (fun z => c8 (M8.mp z)) (w7)
  refine h8.trans ?_
  by_cases c9 : g p = 101
  · rw [show g p - 92 = 9 by omega]
    exact mw_hit len μ ν g (zF zT0 d) e96 e97 hg p n hl hp 29 1 (8) (by decide) (by decide) (by decide) (M9.mpr c9) (w8)
  obtain ⟨w9, h9⟩ := mw_miss len μ ν g (zF zT0 d) e96 e97 hg p n hl hp 29 1 (8) (by decide) (by decide) (by decide) (fun z => c9 (M9.mp z)) (w8)
  refine h9.trans ?_
  by_cases c10 : g p = 102
  · rw [show g p - 92 = 10 by omega]
    exact mw_hit len μ ν g (zF zT0 d) e96 e97 hg p n hl hp 31 1 (9) (by decide) (by decide) (by decide) (M10.mpr c10) (w9)
  omega

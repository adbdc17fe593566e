/-! TOKENS: what stands at a place, for both sides -/
theorem ccl_2 {c : Int} (h0 : ¬ ccl c = 0) (h1 : ¬ ccl c = 1) : ccl c = 2 := by
  unfold ccl
  rw [if_neg (fun q => h0 (ccl_0.mpr q)), if_neg (fun q => h1 (ccl_1.mpr q))]
theorem F_isMk (d len : Nat) (μ : zMu) (ν : zNu) {c : Int} (h : 0 ≤ c ∧ c ≤ 255) : ∃ b : Int, (b = 0 ∨ b = 1) ∧ (b = 1 ↔ mk c) ∧ zF zT0 (d + 1) 199 [.ref 92, .int (zi c)] (zm len μ ν) = some (.int (zi b), zm len μ ν) := by
  by_cases q : mk c
  · refine ⟨1, Or.inr rfl, ⟨fun _ => q, fun _ => rfl⟩, ?_⟩
    rw [B_X12_isMarkSign]
    unfold mk at q
    rcases q with q | q | q | q | q | q | q | q | q | q | q <;> subst q <;> simp (disch := omega) only [zq59, zq63, zq43, zq45, zq42, zq47, zq41, zq60, zq61, zq62, zbi_some, zbl_some, zbv_some, zbi_none, zbl_none, zbv_none, zbi_ite, zbl_ite, zbv_ite, zbZ, zbO, zc_lt, zc_le, zc_ge, zc_gt, zc_eq, zk0, zk1, zk2, zk3, zk4, zk5, zk6, zk7, zk8, zk9, zk10, zk11, zk12, zk14, zk15, zk16, zk17, zk19, zk20, zk21, zk24, zk25, zk30, zk32, zk36, zk40, zk45, zk50, zk64, zk97, zk99, zk100, zk102, zk122, zk128, zk255, zk800, zk801, zk900, zk999, zk1000, zk1997, zk9999, zk10000, zk100000, zk99999, zk9999999, zk999999999, zk2147483647, zlc0, zlc1, zlc2, zlc3, zlc4, zlc23, zlc99, zlc100, zlc9999999, zlc999999999999, zlc1073741824, zi_neg, zi_add, zi_sub, zi_mul, zl_neg, zl_add, zl_sub, zl_mul, zi_toInt, zi_nat, zi_le, zi_lt, zi_eq, zl_le, zl_lt, zl_eq, zl_toInt, zl_of32, zi_of64, zi_div, zl_div, zmodI, ↓reduceIte, zTle, zFle, zTlt, zFlt, zTeq, zFeq, if_true, if_false, and_self, and_true, true_and, and_false, false_and, or_self, or_true, true_or, or_false, false_or, not_true_eq_false, not_false_eq_true, zcastA, zcastL, znatC, zab, Int.reduceAdd, Int.reduceSub, Int.reduceMul, Int.reduceNeg, Int.reduceToNat, Nat.reduceAdd]
  · refine ⟨0, Or.inl rfl, ⟨fun w => by omega, fun w => absurd w q⟩, ?_⟩
    rw [B_X12_isMarkSign]
    unfold mk at q
    have c1 : ¬ c = 59 := by omega
    have c2 : ¬ c = 63 := by omega
    have c3 : ¬ c = 43 := by omega
    have c4 : ¬ c = 45 := by omega
    have c5 : ¬ c = 42 := by omega
    have c6 : ¬ c = 47 := by omega
    have c7 : ¬ c = 40 := by omega
    have c8 : ¬ c = 41 := by omega
    have c9 : ¬ c = 60 := by omega
    have c10 : ¬ c = 61 := by omega
    have c11 : ¬ c = 62 := by omega
    simp (disch := omega) only [zq59, zq63, zq43, zq45, zq42, zq47, zq41, zq60, zq61, zq62, c1, c2, c3, c4, c5, c6, c7, c8, c9, c10, c11, zbi_some, zbl_some, zbv_some, zbi_none, zbl_none, zbv_none, zbi_ite, zbl_ite, zbv_ite, zbZ, zbO, zc_lt, zc_le, zc_ge, zc_gt, zc_eq, zk0, zk1, zk2, zk3, zk4, zk5, zk6, zk7, zk8, zk9, zk10, zk11, zk12, zk14, zk15, zk16, zk17, zk19, zk20, zk21, zk24, zk25, zk30, zk32, zk36, zk40, zk45, zk50, zk64, zk97, zk99, zk100, zk102, zk122, zk128, zk255, zk800, zk801, zk900, zk999, zk1000, zk1997, zk9999, zk10000, zk100000, zk99999, zk9999999, zk999999999, zk2147483647, zlc0, zlc1, zlc2, zlc3, zlc4, zlc23, zlc99, zlc100, zlc9999999, zlc999999999999, zlc1073741824, zi_neg, zi_add, zi_sub, zi_mul, zl_neg, zl_add, zl_sub, zl_mul, zi_toInt, zi_nat, zi_le, zi_lt, zi_eq, zl_le, zl_lt, zl_eq, zl_toInt, zl_of32, zi_of64, zi_div, zl_div, zmodI, ↓reduceIte, zTle, zFle, zTlt, zFlt, zTeq, zFeq, if_true, if_false, and_self, and_true, true_and, and_false, false_and, or_self, or_true, true_or, or_false, false_or, not_true_eq_false, not_false_eq_true, zcastA, zcastL, znatC, zab, Int.reduceAdd, Int.reduceSub, Int.reduceMul, Int.reduceNeg, Int.reduceToNat, Nat.reduceAdd]
def Tok (ty va : Int) : Prop := ty = 1 ∨ (ty = 2 ∧ 0 ≤ va ∧ va ≤ 9999) ∨ (ty = 3 ∧ 0 ≤ va ∧ va ≤ 5) ∨ (ty = 4 ∧ ((0 ≤ va ∧ va ≤ 4) ∨ (11 ≤ va ∧ va ≤ 20))) ∨ (ty = 5 ∧ mk va)
/-- the class's kind of a token -/
def ck (ty va : Int) : Int := if ty = 2 then 2 else if ty = 3 then 3 else if ty = 4 then (if va ≤ 4 then 128 + va else 122 + va) else if ty = 5 then va else ty
/-- the model's kind and value of a token -/
def mt (ty : Int) : Int := if ty = 2 then 3 else if ty = 3 then 2 else if ty = 4 then 2 else if ty = 5 then 4 else ty
def mv (ty va : Int) : Int := if ty = 3 then va + 5 else va
def dvl (g : Nat → Int) (p : Nat) : Nat → Int
  | 0 => 0
  | i + 1 => dvl g p i * 10 + (g (p + i) - 48)
theorem dvl_r (g : Nat → Int) (p : Nat) : ∀ i : Nat, (∀ j, j < i → 48 ≤ g (p + j) ∧ g (p + j) ≤ 57) → i ≤ 4 → 0 ≤ dvl g p i ∧ dvl g p i ≤ (if i = 0 then 0 else if i = 1 then 9 else if i = 2 then 99 else if i = 3 then 999 else 9999) := by
  intro i
  induction i with
  | zero => intro _ _; exact ⟨Int.le_refl _, Int.le_refl _⟩
  | succ i ih =>
    intro h hi
    have a := ih (fun j hj => h j (by omega)) (by omega)
    have b := h i (by omega)
    have e : dvl g p (i + 1) = dvl g p i * 10 + (g (p + i) - 48) := rfl
    rw [e]
    have : i = 0 ∨ i = 1 ∨ i = 2 ∨ i = 3 := by omega
    rcases this with z | z | z | z <;> subst z <;> simp only [Nat.reduceEqDiff, Nat.reduceAdd, if_true, if_false, Nat.succ_ne_self, reduceIte] at a ⊢ <;> omega
/-- how far a token goes -/
def Tlen (g : Nat → Int) (L p n : Nat) : Prop := 1 ≤ n ∧ p + n ≤ L ∧ (ccl (g p) = 2 → n = 1) ∧ (ccl (g p) ≠ 2 → (∀ j, j < n → ccl (g (p + j)) = ccl (g p)) ∧ (p + n = L ∨ ccl (g (p + n)) ≠ ccl (g p)))
theorem run_ex (g : Nat → Int) (L : Nat) (k : Int) : ∀ m p : Nat, p + m = L → ∃ n, p + n ≤ L ∧ (∀ j, j < n → ccl (g (p + j)) = k) ∧ (p + n = L ∨ ccl (g (p + n)) ≠ k) := by
  intro m
  induction m with
  | zero => intro p hp; exact ⟨0, by omega, fun j hj => by omega, Or.inl hp⟩
  | succ m ih =>
    intro p hp
    by_cases q : ccl (g p) = k
    · obtain ⟨n, n1, n2, n3⟩ := ih (p + 1) (by omega)
      refine ⟨n + 1, by omega, fun j hj => ?_, ?_⟩
      · by_cases z : j = 0
        · rw [z]; exact q
        · have := n2 (j - 1) (by omega)
          rw [show p + 1 + (j - 1) = p + j by omega] at this
          exact this
      · rw [show p + (n + 1) = p + 1 + n by omega]
        exact n3
    · exact ⟨0, by omega, fun j hj => by omega, Or.inr q⟩
theorem Tlen_ex (g : Nat → Int) (L p : Nat) (hp : p < L) : ∃ n, Tlen g L p n := by
  by_cases q : ccl (g p) = 2
  · exact ⟨1, by omega, by omega, fun _ => rfl, fun w => absurd q w⟩
  · obtain ⟨n, n1, n2, n3⟩ := run_ex g L (ccl (g p)) (L - p) p (by omega)
    have : n ≠ 0 := fun z => by
      rw [z, Nat.add_zero] at n3
      rcases n3 with w | w
      · omega
      · exact w rfl
    exact ⟨n, by omega, n1, fun w => absurd w q, fun _ => ⟨n2, n3⟩⟩
theorem nxt_ex (g : Nat → Int) (L : Nat) : ∀ m p : Nat, p + m = L → ∃ q, p ≤ q ∧ q ≤ L ∧ (∀ j, p ≤ j → j < q → g j = 32 ∨ g j = 10) ∧ (q = L ∨ (g q ≠ 32 ∧ g q ≠ 10)) := by
  intro m
  induction m with
  | zero => intro p hp; exact ⟨p, by omega, by omega, fun j h1 h2 => by omega, Or.inl hp⟩
  | succ m ih =>
    intro p hp
    by_cases w : g p = 32 ∨ g p = 10
    · obtain ⟨q, q1, q2, q3, q4⟩ := ih (p + 1) (by omega)
      refine ⟨q, by omega, q2, fun j h1 h2 => ?_, q4⟩
      by_cases z : j = p
      · rw [z]; exact w
      · exact q3 j (by omega) h2
    · exact ⟨p, by omega, by omega, fun j h1 h2 => by omega, Or.inr ⟨fun z => w (Or.inl z), fun z => w (Or.inr z)⟩⟩
section SIZE
variable (d len : Nat) (μ : zMu) (ν : zNu) (g : Nat → Int)
theorem size_l (hg : ∀ i, 0 ≤ g i ∧ g i ≤ 255) (e7 : ∀ i, μ 7 i = zi (g i)) (L p n : Nat) (hL : L ≤ 800) (e1 : μ 6 1 = zi (L : Int)) (hp : p + n ≤ L) (h1 : ∀ j, j < n → ccl (g (p + j)) = 0) (h2 : p + n = L ∨ ccl (g (p + n)) ≠ 0) (v3 : Int32) : ∀ m j : Nat, j + m = n → zE zc_X10_sizeFrom (zF zT0 (d + 1)) 31 [.ref 6, .int (zi (p : Int)), .int (zi 1), .int v3, .int (zi (j : Int))] [] (zm len μ ν) = some (.int (zi (n : Int)), zm len μ ν) := by
  intro m
  induction m with
  | zero =>
    intro j hj
    have : j = n := by omega
    subst this
    rw [B_X10_sizeFrom_31]
    rcases h2 with w | w
    · simp (disch := omega) only [e1, zbi_some, zbl_some, zbv_some, zbi_none, zbl_none, zbv_none, zbi_ite, zbl_ite, zbv_ite, zbZ, zbO, zc_lt, zc_le, zc_ge, zc_gt, zc_eq, zk0, zk1, zk2, zk3, zk4, zk5, zk6, zk7, zk8, zk9, zk10, zk11, zk12, zk14, zk15, zk16, zk17, zk19, zk20, zk21, zk24, zk25, zk30, zk32, zk36, zk40, zk45, zk50, zk64, zk97, zk99, zk100, zk102, zk122, zk128, zk255, zk800, zk801, zk900, zk999, zk1000, zk1997, zk9999, zk10000, zk100000, zk99999, zk9999999, zk999999999, zk2147483647, zlc0, zlc1, zlc2, zlc3, zlc4, zlc23, zlc99, zlc100, zlc9999999, zlc999999999999, zlc1073741824, zi_neg, zi_add, zi_sub, zi_mul, zl_neg, zl_add, zl_sub, zl_mul, zi_toInt, zi_nat, zi_le, zi_lt, zi_eq, zl_le, zl_lt, zl_eq, zl_toInt, zl_of32, zi_of64, zi_div, zl_div, zmodI, ↓reduceIte, zTle, zFle, zTlt, zFlt, zTeq, zFeq, if_true, if_false, and_self, and_true, true_and, and_false, false_and, or_self, or_true, true_or, or_false, false_or, not_true_eq_false, not_false_eq_true, zcastA, zcastL, znatC, zab, Int.reduceAdd, Int.reduceSub, Int.reduceMul, Int.reduceNeg, Int.reduceToNat, Nat.reduceAdd]
    · by_cases z : p + j = L
      · simp (disch := omega) only [e1, zbi_some, zbl_some, zbv_some, zbi_none, zbl_none, zbv_none, zbi_ite, zbl_ite, zbv_ite, zbZ, zbO, zc_lt, zc_le, zc_ge, zc_gt, zc_eq, zk0, zk1, zk2, zk3, zk4, zk5, zk6, zk7, zk8, zk9, zk10, zk11, zk12, zk14, zk15, zk16, zk17, zk19, zk20, zk21, zk24, zk25, zk30, zk32, zk36, zk40, zk45, zk50, zk64, zk97, zk99, zk100, zk102, zk122, zk128, zk255, zk800, zk801, zk900, zk999, zk1000, zk1997, zk9999, zk10000, zk100000, zk99999, zk9999999, zk999999999, zk2147483647, zlc0, zlc1, zlc2, zlc3, zlc4, zlc23, zlc99, zlc100, zlc9999999, zlc999999999999, zlc1073741824, zi_neg, zi_add, zi_sub, zi_mul, zl_neg, zl_add, zl_sub, zl_mul, zi_toInt, zi_nat, zi_le, zi_lt, zi_eq, zl_le, zl_lt, zl_eq, zl_toInt, zl_of32, zi_of64, zi_div, zl_div, zmodI, ↓reduceIte, zTle, zFle, zTlt, zFlt, zTeq, zFeq, if_true, if_false, and_self, and_true, true_and, and_false, false_and, or_self, or_true, true_or, or_false, false_or, not_true_eq_false, not_false_eq_true, zcastA, zcastL, znatC, zab, Int.reduceAdd, Int.reduceSub, Int.reduceMul, Int.reduceNeg, Int.reduceToNat, Nat.reduceAdd]
      · have ix : ((p : Int) + (j : Int)).toNat = p + j := by omega
        have b := hg (p + j)
        simp (disch := omega) only [e1, ix, e7, F_isLetC, w, zbF, B_X10_sizeFrom_58, zbi_some, zbl_some, zbv_some, zbi_none, zbl_none, zbv_none, zbi_ite, zbl_ite, zbv_ite, zbZ, zbO, zc_lt, zc_le, zc_ge, zc_gt, zc_eq, zk0, zk1, zk2, zk3, zk4, zk5, zk6, zk7, zk8, zk9, zk10, zk11, zk12, zk14, zk15, zk16, zk17, zk19, zk20, zk21, zk24, zk25, zk30, zk32, zk36, zk40, zk45, zk50, zk64, zk97, zk99, zk100, zk102, zk122, zk128, zk255, zk800, zk801, zk900, zk999, zk1000, zk1997, zk9999, zk10000, zk100000, zk99999, zk9999999, zk999999999, zk2147483647, zlc0, zlc1, zlc2, zlc3, zlc4, zlc23, zlc99, zlc100, zlc9999999, zlc999999999999, zlc1073741824, zi_neg, zi_add, zi_sub, zi_mul, zl_neg, zl_add, zl_sub, zl_mul, zi_toInt, zi_nat, zi_le, zi_lt, zi_eq, zl_le, zl_lt, zl_eq, zl_toInt, zl_of32, zi_of64, zi_div, zl_div, zmodI, ↓reduceIte, zTle, zFle, zTlt, zFlt, zTeq, zFeq, if_true, if_false, and_self, and_true, true_and, and_false, false_and, or_self, or_true, true_or, or_false, false_or, not_true_eq_false, not_false_eq_true, zcastA, zcastL, znatC, zab, Int.reduceAdd, Int.reduceSub, Int.reduceMul, Int.reduceNeg, Int.reduceToNat, Nat.reduceAdd]
  | succ m ih =>
    intro j hj
    have ix : ((p : Int) + (j : Int)).toNat = p + j := by omega
    have b := hg (p + j)
    have c := h1 j (by omega)
    rw [B_X10_sizeFrom_31]
    simp (disch := omega) only [e1, ix, e7, F_isLetC, c, zbT, B_X10_sizeFrom_58, B_X10_sizeFrom_79, zbi_some, zbl_some, zbv_some, zbi_none, zbl_none, zbv_none, zbi_ite, zbl_ite, zbv_ite, zbZ, zbO, zc_lt, zc_le, zc_ge, zc_gt, zc_eq, zk0, zk1, zk2, zk3, zk4, zk5, zk6, zk7, zk8, zk9, zk10, zk11, zk12, zk14, zk15, zk16, zk17, zk19, zk20, zk21, zk24, zk25, zk30, zk32, zk36, zk40, zk45, zk50, zk64, zk97, zk99, zk100, zk102, zk122, zk128, zk255, zk800, zk801, zk900, zk999, zk1000, zk1997, zk9999, zk10000, zk100000, zk99999, zk9999999, zk999999999, zk2147483647, zlc0, zlc1, zlc2, zlc3, zlc4, zlc23, zlc99, zlc100, zlc9999999, zlc999999999999, zlc1073741824, zi_neg, zi_add, zi_sub, zi_mul, zl_neg, zl_add, zl_sub, zl_mul, zi_toInt, zi_nat, zi_le, zi_lt, zi_eq, zl_le, zl_lt, zl_eq, zl_toInt, zl_of32, zi_of64, zi_div, zl_div, zmodI, ↓reduceIte, zTle, zFle, zTlt, zFlt, zTeq, zFeq, if_true, if_false, and_self, and_true, true_and, and_false, false_and, or_self, or_true, true_or, or_false, false_or, not_true_eq_false, not_false_eq_true, zcastA, zcastL, znatC, zab, Int.reduceAdd, Int.reduceSub, Int.reduceMul, Int.reduceNeg, Int.reduceToNat, Nat.reduceAdd]
    exact ih (j + 1) (by omega)
theorem size_d (hg : ∀ i, 0 ≤ g i ∧ g i ≤ 255) (e7 : ∀ i, μ 7 i = zi (g i)) (L p n : Nat) (hL : L ≤ 800) (e1 : μ 6 1 = zi (L : Int)) (hp : p + n ≤ L) (h1 : ∀ j, j < n → ccl (g (p + j)) = 1) (h2 : p + n = L ∨ ccl (g (p + n)) ≠ 1) (v3 : Int32) : ∀ m j : Nat, j + m = n → zE zc_X10_sizeFrom (zF zT0 (d + 1)) 31 [.ref 6, .int (zi (p : Int)), .int (zi 0), .int v3, .int (zi (j : Int))] [] (zm len μ ν) = some (.int (zi (n : Int)), zm len μ ν) := by
  intro m
  induction m with
  | zero =>
    intro j hj
    have : j = n := by omega
    subst this
    rw [B_X10_sizeFrom_31]
    rcases h2 with w | w
    · simp (disch := omega) only [e1, zbi_some, zbl_some, zbv_some, zbi_none, zbl_none, zbv_none, zbi_ite, zbl_ite, zbv_ite, zbZ, zbO, zc_lt, zc_le, zc_ge, zc_gt, zc_eq, zk0, zk1, zk2, zk3, zk4, zk5, zk6, zk7, zk8, zk9, zk10, zk11, zk12, zk14, zk15, zk16, zk17, zk19, zk20, zk21, zk24, zk25, zk30, zk32, zk36, zk40, zk45, zk50, zk64, zk97, zk99, zk100, zk102, zk122, zk128, zk255, zk800, zk801, zk900, zk999, zk1000, zk1997, zk9999, zk10000, zk100000, zk99999, zk9999999, zk999999999, zk2147483647, zlc0, zlc1, zlc2, zlc3, zlc4, zlc23, zlc99, zlc100, zlc9999999, zlc999999999999, zlc1073741824, zi_neg, zi_add, zi_sub, zi_mul, zl_neg, zl_add, zl_sub, zl_mul, zi_toInt, zi_nat, zi_le, zi_lt, zi_eq, zl_le, zl_lt, zl_eq, zl_toInt, zl_of32, zi_of64, zi_div, zl_div, zmodI, ↓reduceIte, zTle, zFle, zTlt, zFlt, zTeq, zFeq, if_true, if_false, and_self, and_true, true_and, and_false, false_and, or_self, or_true, true_or, or_false, false_or, not_true_eq_false, not_false_eq_true, zcastA, zcastL, znatC, zab, Int.reduceAdd, Int.reduceSub, Int.reduceMul, Int.reduceNeg, Int.reduceToNat, Nat.reduceAdd]
    · by_cases z : p + j = L
      · simp (disch := omega) only [e1, zbi_some, zbl_some, zbv_some, zbi_none, zbl_none, zbv_none, zbi_ite, zbl_ite, zbv_ite, zbZ, zbO, zc_lt, zc_le, zc_ge, zc_gt, zc_eq, zk0, zk1, zk2, zk3, zk4, zk5, zk6, zk7, zk8, zk9, zk10, zk11, zk12, zk14, zk15, zk16, zk17, zk19, zk20, zk21, zk24, zk25, zk30, zk32, zk36, zk40, zk45, zk50, zk64, zk97, zk99, zk100, zk102, zk122, zk128, zk255, zk800, zk801, zk900, zk999, zk1000, zk1997, zk9999, zk10000, zk100000, zk99999, zk9999999, zk999999999, zk2147483647, zlc0, zlc1, zlc2, zlc3, zlc4, zlc23, zlc99, zlc100, zlc9999999, zlc999999999999, zlc1073741824, zi_neg, zi_add, zi_sub, zi_mul, zl_neg, zl_add, zl_sub, zl_mul, zi_toInt, zi_nat, zi_le, zi_lt, zi_eq, zl_le, zl_lt, zl_eq, zl_toInt, zl_of32, zi_of64, zi_div, zl_div, zmodI, ↓reduceIte, zTle, zFle, zTlt, zFlt, zTeq, zFeq, if_true, if_false, and_self, and_true, true_and, and_false, false_and, or_self, or_true, true_or, or_false, false_or, not_true_eq_false, not_false_eq_true, zcastA, zcastL, znatC, zab, Int.reduceAdd, Int.reduceSub, Int.reduceMul, Int.reduceNeg, Int.reduceToNat, Nat.reduceAdd]
      · have ix : ((p : Int) + (j : Int)).toNat = p + j := by omega
        have b := hg (p + j)
        simp (disch := omega) only [e1, ix, e7, F_isDigC, w, zbF, B_X10_sizeFrom_76, zbi_some, zbl_some, zbv_some, zbi_none, zbl_none, zbv_none, zbi_ite, zbl_ite, zbv_ite, zbZ, zbO, zc_lt, zc_le, zc_ge, zc_gt, zc_eq, zk0, zk1, zk2, zk3, zk4, zk5, zk6, zk7, zk8, zk9, zk10, zk11, zk12, zk14, zk15, zk16, zk17, zk19, zk20, zk21, zk24, zk25, zk30, zk32, zk36, zk40, zk45, zk50, zk64, zk97, zk99, zk100, zk102, zk122, zk128, zk255, zk800, zk801, zk900, zk999, zk1000, zk1997, zk9999, zk10000, zk100000, zk99999, zk9999999, zk999999999, zk2147483647, zlc0, zlc1, zlc2, zlc3, zlc4, zlc23, zlc99, zlc100, zlc9999999, zlc999999999999, zlc1073741824, zi_neg, zi_add, zi_sub, zi_mul, zl_neg, zl_add, zl_sub, zl_mul, zi_toInt, zi_nat, zi_le, zi_lt, zi_eq, zl_le, zl_lt, zl_eq, zl_toInt, zl_of32, zi_of64, zi_div, zl_div, zmodI, ↓reduceIte, zTle, zFle, zTlt, zFlt, zTeq, zFeq, if_true, if_false, and_self, and_true, true_and, and_false, false_and, or_self, or_true, true_or, or_false, false_or, not_true_eq_false, not_false_eq_true, zcastA, zcastL, znatC, zab, Int.reduceAdd, Int.reduceSub, Int.reduceMul, Int.reduceNeg, Int.reduceToNat, Nat.reduceAdd]
  | succ m ih =>
    intro j hj
    have ix : ((p : Int) + (j : Int)).toNat = p + j := by omega
    have b := hg (p + j)
    have c := h1 j (by omega)
    rw [B_X10_sizeFrom_31]
    simp (disch := omega) only [e1, ix, e7, F_isDigC, c, zbT, B_X10_sizeFrom_76, B_X10_sizeFrom_79, zbi_some, zbl_some, zbv_some, zbi_none, zbl_none, zbv_none, zbi_ite, zbl_ite, zbv_ite, zbZ, zbO, zc_lt, zc_le, zc_ge, zc_gt, zc_eq, zk0, zk1, zk2, zk3, zk4, zk5, zk6, zk7, zk8, zk9, zk10, zk11, zk12, zk14, zk15, zk16, zk17, zk19, zk20, zk21, zk24, zk25, zk30, zk32, zk36, zk40, zk45, zk50, zk64, zk97, zk99, zk100, zk102, zk122, zk128, zk255, zk800, zk801, zk900, zk999, zk1000, zk1997, zk9999, zk10000, zk100000, zk99999, zk9999999, zk999999999, zk2147483647, zlc0, zlc1, zlc2, zlc3, zlc4, zlc23, zlc99, zlc100, zlc9999999, zlc999999999999, zlc1073741824, zi_neg, zi_add, zi_sub, zi_mul, zl_neg, zl_add, zl_sub, zl_mul, zi_toInt, zi_nat, zi_le, zi_lt, zi_eq, zl_le, zl_lt, zl_eq, zl_toInt, zl_of32, zi_of64, zi_div, zl_div, zmodI, ↓reduceIte, zTle, zFle, zTlt, zFlt, zTeq, zFeq, if_true, if_false, and_self, and_true, true_and, and_false, false_and, or_self, or_true, true_or, or_false, false_or, not_true_eq_false, not_false_eq_true, zcastA, zcastL, znatC, zab, Int.reduceAdd, Int.reduceSub, Int.reduceMul, Int.reduceNeg, Int.reduceToNat, Nat.reduceAdd]
    exact ih (j + 1) (by omega)
theorem F_size (hg : ∀ i, 0 ≤ g i ∧ g i ≤ 255) (e7 : ∀ i, μ 7 i = zi (g i)) (L p n : Nat) (hL : L ≤ 800) (e1 : μ 6 1 = zi (L : Int)) (h : Tlen g L p n) : zF zT0 (d + 2) 122 [.ref 6, .int (zi (p : Int))] (zm len μ ν) = some (.int (zi (n : Int)), zm len μ ν) := by
  obtain ⟨h1, h2, h3, h4⟩ := h
  have b := hg p
  rw [B_X10_sizeFrom]
  by_cases c0 : ccl (g p) = 0
  · obtain ⟨x, y⟩ := h4 (by omega)
    rw [c0] at x y
    simp (disch := omega) only [e7, F_isLetC, F_isDigC, c0, zbT, zbF, B_X10_sizeFrom_9, B_X10_sizeFrom_19, zbi_some, zbl_some, zbv_some, zbi_none, zbl_none, zbv_none, zbi_ite, zbl_ite, zbv_ite, zbZ, zbO, zc_lt, zc_le, zc_ge, zc_gt, zc_eq, zk0, zk1, zk2, zk3, zk4, zk5, zk6, zk7, zk8, zk9, zk10, zk11, zk12, zk14, zk15, zk16, zk17, zk19, zk20, zk21, zk24, zk25, zk30, zk32, zk36, zk40, zk45, zk50, zk64, zk97, zk99, zk100, zk102, zk122, zk128, zk255, zk800, zk801, zk900, zk999, zk1000, zk1997, zk9999, zk10000, zk100000, zk99999, zk9999999, zk999999999, zk2147483647, zlc0, zlc1, zlc2, zlc3, zlc4, zlc23, zlc99, zlc100, zlc9999999, zlc999999999999, zlc1073741824, zi_neg, zi_add, zi_sub, zi_mul, zl_neg, zl_add, zl_sub, zl_mul, zi_toInt, zi_nat, zi_le, zi_lt, zi_eq, zl_le, zl_lt, zl_eq, zl_toInt, zl_of32, zi_of64, zi_div, zl_div, zmodI, ↓reduceIte, zTle, zFle, zTlt, zFlt, zTeq, zFeq, if_true, if_false, and_self, and_true, true_and, and_false, false_and, or_self, or_true, true_or, or_false, false_or, not_true_eq_false, not_false_eq_true, zcastA, zcastL, znatC, zab, Int.reduceAdd, Int.reduceSub, Int.reduceMul, Int.reduceNeg, Int.reduceToNat, Nat.reduceAdd]
    exact size_l d len μ ν g hg e7 L p n hL e1 h2 x y _ (n - 1) 1 (by omega)
  · by_cases c1 : ccl (g p) = 1
    · obtain ⟨x, y⟩ := h4 (by omega)
      rw [c1] at x y
      simp (disch := omega) only [e7, F_isLetC, F_isDigC, c1, zbT, zbF, B_X10_sizeFrom_9, B_X10_sizeFrom_19, zbi_some, zbl_some, zbv_some, zbi_none, zbl_none, zbv_none, zbi_ite, zbl_ite, zbv_ite, zbZ, zbO, zc_lt, zc_le, zc_ge, zc_gt, zc_eq, zk0, zk1, zk2, zk3, zk4, zk5, zk6, zk7, zk8, zk9, zk10, zk11, zk12, zk14, zk15, zk16, zk17, zk19, zk20, zk21, zk24, zk25, zk30, zk32, zk36, zk40, zk45, zk50, zk64, zk97, zk99, zk100, zk102, zk122, zk128, zk255, zk800, zk801, zk900, zk999, zk1000, zk1997, zk9999, zk10000, zk100000, zk99999, zk9999999, zk999999999, zk2147483647, zlc0, zlc1, zlc2, zlc3, zlc4, zlc23, zlc99, zlc100, zlc9999999, zlc999999999999, zlc1073741824, zi_neg, zi_add, zi_sub, zi_mul, zl_neg, zl_add, zl_sub, zl_mul, zi_toInt, zi_nat, zi_le, zi_lt, zi_eq, zl_le, zl_lt, zl_eq, zl_toInt, zl_of32, zi_of64, zi_div, zl_div, zmodI, ↓reduceIte, zTle, zFle, zTlt, zFlt, zTeq, zFeq, if_true, if_false, and_self, and_true, true_and, and_false, false_and, or_self, or_true, true_or, or_false, false_or, not_true_eq_false, not_false_eq_true, zcastA, zcastL, znatC, zab, Int.reduceAdd, Int.reduceSub, Int.reduceMul, Int.reduceNeg, Int.reduceToNat, Nat.reduceAdd]
      exact size_d d len μ ν g hg e7 L p n hL e1 h2 x y _ (n - 1) 1 (by omega)
    · have c2 : ccl (g p) = 2 := ccl_2 c0 c1
      have := h3 c2
      subst this
      simp (disch := omega) only [e7, F_isLetC, F_isDigC, c2, zbT, zbF, B_X10_sizeFrom_9, B_X10_sizeFrom_19, zbi_some, zbl_some, zbv_some, zbi_none, zbl_none, zbv_none, zbi_ite, zbl_ite, zbv_ite, zbZ, zbO, zc_lt, zc_le, zc_ge, zc_gt, zc_eq, zk0, zk1, zk2, zk3, zk4, zk5, zk6, zk7, zk8, zk9, zk10, zk11, zk12, zk14, zk15, zk16, zk17, zk19, zk20, zk21, zk24, zk25, zk30, zk32, zk36, zk40, zk45, zk50, zk64, zk97, zk99, zk100, zk102, zk122, zk128, zk255, zk800, zk801, zk900, zk999, zk1000, zk1997, zk9999, zk10000, zk100000, zk99999, zk9999999, zk999999999, zk2147483647, zlc0, zlc1, zlc2, zlc3, zlc4, zlc23, zlc99, zlc100, zlc9999999, zlc999999999999, zlc1073741824, zi_neg, zi_add, zi_sub, zi_mul, zl_neg, zl_add, zl_sub, zl_mul, zi_toInt, zi_nat, zi_le, zi_lt, zi_eq, zl_le, zl_lt, zl_eq, zl_toInt, zl_of32, zi_of64, zi_div, zl_div, zmodI, ↓reduceIte, zTle, zFle, zTlt, zFlt, zTeq, zFeq, if_true, if_false, and_self, and_true, true_and, and_false, false_and, or_self, or_true, true_or, or_false, false_or, not_true_eq_false, not_false_eq_true, zcastA, zcastL, znatC, zab, Int.reduceAdd, Int.reduceSub, Int.reduceMul, Int.reduceNeg, Int.reduceToNat, Nat.reduceAdd]
theorem val_c (hg : ∀ i, 0 ≤ g i ∧ g i ≤ 255) (e7 : ∀ i, μ 7 i = zi (g i)) (call : zC) (p n : Nat) (hp : p + n ≤ 800) : ∀ m j : Nat, j + m = min n 4 → zE zc_X10_valueOf call 27 [.ref 6, .int (zi (p : Int)), .int (zi (n : Int)), .int (zi (dvl g p j)), .int (zi (j : Int))] [] (zm len μ ν) = some (.int (zi (dvl g p (min n 4))), zm len μ ν) := by
  intro m
  induction m with
  | zero =>
    intro j hj
    have : j = min n 4 := by omega
    subst this
    rw [B_X10_valueOf_27]
    by_cases z : n ≤ 4
    · have : ((min n 4 : Nat) : Int) = (n : Int) := by omega
      simp (disch := omega) only [this, zbi_some, zbl_some, zbv_some, zbi_none, zbl_none, zbv_none, zbi_ite, zbl_ite, zbv_ite, zbZ, zbO, zc_lt, zc_le, zc_ge, zc_gt, zc_eq, zk0, zk1, zk2, zk3, zk4, zk5, zk6, zk7, zk8, zk9, zk10, zk11, zk12, zk14, zk15, zk16, zk17, zk19, zk20, zk21, zk24, zk25, zk30, zk32, zk36, zk40, zk45, zk50, zk64, zk97, zk99, zk100, zk102, zk122, zk128, zk255, zk800, zk801, zk900, zk999, zk1000, zk1997, zk9999, zk10000, zk100000, zk99999, zk9999999, zk999999999, zk2147483647, zlc0, zlc1, zlc2, zlc3, zlc4, zlc23, zlc99, zlc100, zlc9999999, zlc999999999999, zlc1073741824, zi_neg, zi_add, zi_sub, zi_mul, zl_neg, zl_add, zl_sub, zl_mul, zi_toInt, zi_nat, zi_le, zi_lt, zi_eq, zl_le, zl_lt, zl_eq, zl_toInt, zl_of32, zi_of64, zi_div, zl_div, zmodI, ↓reduceIte, zTle, zFle, zTlt, zFlt, zTeq, zFeq, if_true, if_false, and_self, and_true, true_and, and_false, false_and, or_self, or_true, true_or, or_false, false_or, not_true_eq_false, not_false_eq_true, zcastA, zcastL, znatC, zab, Int.reduceAdd, Int.reduceSub, Int.reduceMul, Int.reduceNeg, Int.reduceToNat, Nat.reduceAdd]
    · have : ((min n 4 : Nat) : Int) = 4 := by omega
      simp (disch := omega) only [this, zbi_some, zbl_some, zbv_some, zbi_none, zbl_none, zbv_none, zbi_ite, zbl_ite, zbv_ite, zbZ, zbO, zc_lt, zc_le, zc_ge, zc_gt, zc_eq, zk0, zk1, zk2, zk3, zk4, zk5, zk6, zk7, zk8, zk9, zk10, zk11, zk12, zk14, zk15, zk16, zk17, zk19, zk20, zk21, zk24, zk25, zk30, zk32, zk36, zk40, zk45, zk50, zk64, zk97, zk99, zk100, zk102, zk122, zk128, zk255, zk800, zk801, zk900, zk999, zk1000, zk1997, zk9999, zk10000, zk100000, zk99999, zk9999999, zk999999999, zk2147483647, zlc0, zlc1, zlc2, zlc3, zlc4, zlc23, zlc99, zlc100, zlc9999999, zlc999999999999, zlc1073741824, zi_neg, zi_add, zi_sub, zi_mul, zl_neg, zl_add, zl_sub, zl_mul, zi_toInt, zi_nat, zi_le, zi_lt, zi_eq, zl_le, zl_lt, zl_eq, zl_toInt, zl_of32, zi_of64, zi_div, zl_div, zmodI, ↓reduceIte, zTle, zFle, zTlt, zFlt, zTeq, zFeq, if_true, if_false, and_self, and_true, true_and, and_false, false_and, or_self, or_true, true_or, or_false, false_or, not_true_eq_false, not_false_eq_true, zcastA, zcastL, znatC, zab, Int.reduceAdd, Int.reduceSub, Int.reduceMul, Int.reduceNeg, Int.reduceToNat, Nat.reduceAdd]
  | succ m ih =>
    intro j hj
    have ix : ((p : Int) + (j : Int)).toNat = p + j := by omega
    have b := hg (p + j)
    have e := ih (j + 1) (by omega)
    rw [show dvl g p (j + 1) = dvl g p j * 10 + (g (p + j) - 48) from rfl] at e
    rw [B_X10_valueOf_27]
    simp (disch := omega) only [zq48, ix, e7, zbi_some, zbl_some, zbv_some, zbi_none, zbl_none, zbv_none, zbi_ite, zbl_ite, zbv_ite, zbZ, zbO, zc_lt, zc_le, zc_ge, zc_gt, zc_eq, zk0, zk1, zk2, zk3, zk4, zk5, zk6, zk7, zk8, zk9, zk10, zk11, zk12, zk14, zk15, zk16, zk17, zk19, zk20, zk21, zk24, zk25, zk30, zk32, zk36, zk40, zk45, zk50, zk64, zk97, zk99, zk100, zk102, zk122, zk128, zk255, zk800, zk801, zk900, zk999, zk1000, zk1997, zk9999, zk10000, zk100000, zk99999, zk9999999, zk999999999, zk2147483647, zlc0, zlc1, zlc2, zlc3, zlc4, zlc23, zlc99, zlc100, zlc9999999, zlc999999999999, zlc1073741824, zi_neg, zi_add, zi_sub, zi_mul, zl_neg, zl_add, zl_sub, zl_mul, zi_toInt, zi_nat, zi_le, zi_lt, zi_eq, zl_le, zl_lt, zl_eq, zl_toInt, zl_of32, zi_of64, zi_div, zl_div, zmodI, ↓reduceIte, zTle, zFle, zTlt, zFlt, zTeq, zFeq, if_true, if_false, and_self, and_true, true_and, and_false, false_and, or_self, or_true, true_or, or_false, false_or, not_true_eq_false, not_false_eq_true, zcastA, zcastL, znatC, zab, Int.reduceAdd, Int.reduceSub, Int.reduceMul, Int.reduceNeg, Int.reduceToNat, Nat.reduceAdd]
    exact e
end SIZE

/-! BALLS: the model's search -/
theorem zloopV {f : Nat → Value → zR} {n : Nat} (h : ∀ j v, j < n → ∃ v', f j v = f (j + 1) v') : ∀ v, ∃ v', f 0 v = f n v' := by
  induction n with
  | zero => exact fun v => ⟨v, rfl⟩
  | succ n ih =>
    intro v
    obtain ⟨v1, h1⟩ := ih (fun j v hj => h j v (by omega)) v
    obtain ⟨v2, h2⟩ := h n v1 (by omega)
    exact ⟨v2, h1.trans h2⟩
def Bm (μ : zMu) (b o ra we : Int) (ins w mk : Nat → Int) : Prop := (0 ≤ b ∧ b < 8) ∧ (μ 120 b.toNat = zi o ∧ 0 ≤ o ∧ o ≤ 1) ∧ (μ 118 b.toNat = zi ra ∧ -1 ≤ ra ∧ ra ≤ 45) ∧ (μ 119 b.toNat = zi we ∧ -1 ≤ we ∧ we ≤ 900) ∧ (∀ k : Nat, k < 5 → μ 121 (5 * b + (k : Int)).toNat = zi (ins k) ∧ 0 ≤ ins k ∧ ins k ≤ 9) ∧ (∀ k, k < 5 → μ 117 k = zi (w k) ∧ 1 ≤ w k ∧ w k ≤ 20) ∧ (∀ k : Nat, k < 5 → μ 122 (5 * b + (k : Int)).toNat = zi (mk k) ∧ 0 ≤ mk k ∧ mk k ≤ 9)
theorem Bm_eq {μ μ' : zMu} {b o ra we : Int} {ins w mk : Nat → Int} (h : Bm μ b o ra we ins w mk) (e : ∀ r, r = 117 ∨ r = 118 ∨ r = 119 ∨ r = 120 ∨ r = 121 ∨ r = 122 → μ' r = μ r) : Bm μ' b o ra we ins w mk := by
  unfold Bm at h ⊢
  rw [e 117 (by decide), e 118 (by decide), e 119 (by decide), e 120 (by decide), e 121 (by decide), e 122 (by decide)]
  exact h
theorem mb_o (call : zC) (len : Nat) (μ : zMu) (ν : zNu) (b : Int) (c ins : Nat → Int) (hb : 0 ≤ b ∧ b < 8) (h120 : μ 120 b.toNat = zi 1) (hc : ∀ k, k < 5 → μ 125 k = zi (c k) ∧ 0 ≤ c k ∧ c k ≤ 9) (hin : ∀ k : Nat, k < 5 → μ 121 (5 * b + (k : Int)).toNat = zi (ins k) ∧ 0 ≤ ins k ∧ ins k ≤ 9) : ∀ (n j : Nat) (x y : Int32), j + n = 5 → ∃ r : Int, zE zc_X12_mayBe call 7 [.ref 92, .int (zi b), .int x, .int y, .int (zi (j : Int))] [] (zm len μ ν) = some (.int (zi r), zm len μ ν) ∧ (r = 0 ∧ (¬ ∀ k, j ≤ k → k < 5 → c k = ins k) ∨ r = 1 ∧ ∀ k, j ≤ k → k < 5 → c k = ins k) := by
  intro n
  induction n with
  | zero =>
    intro j x y hj
    refine ⟨1, ?_, Or.inr ⟨rfl, fun k h1 h2 => by omega⟩⟩
    rw [B_X12_mayBe_7]
    simp (disch := omega) only [h120, zbi_some, zbl_some, zbv_some, zbi_none, zbl_none, zbv_none, zbi_ite, zbl_ite, zbv_ite, zbZ, zbO, zc_lt, zc_le, zc_ge, zc_gt, zc_eq, zk0, zk1, zk2, zk3, zk4, zk5, zk6, zk7, zk8, zk9, zk10, zk11, zk12, zk14, zk15, zk16, zk17, zk19, zk20, zk21, zk24, zk25, zk30, zk32, zk36, zk40, zk45, zk50, zk64, zk97, zk99, zk100, zk102, zk122, zk128, zk255, zk800, zk801, zk900, zk999, zk1000, zk1997, zk9999, zk10000, zk100000, zk99999, zk9999999, zk999999999, zk2147483647, zlc0, zlc1, zlc2, zlc3, zlc4, zlc23, zlc99, zlc100, zlc9999999, zlc999999999999, zlc1073741824, zi_neg, zi_add, zi_sub, zi_mul, zl_neg, zl_add, zl_sub, zl_mul, zi_toInt, zi_nat, zi_le, zi_lt, zi_eq, zl_le, zl_lt, zl_eq, zl_toInt, zl_of32, zi_of64, zi_div, zl_div, zmodI, ↓reduceIte, zTle, zFle, zTlt, zFlt, zTeq, zFeq, if_true, if_false, and_self, and_true, true_and, and_false, false_and, or_self, or_true, true_or, or_false, false_or, not_true_eq_false, not_false_eq_true, zcastA, zcastL, znatC, zab, Int.reduceAdd, Int.reduceSub, Int.reduceMul, Int.reduceNeg, Int.reduceToNat, Nat.reduceAdd]
  | succ n ih =>
    intro j x y hj
    have h1 := hc j (by omega)
    have h2 := hin j (by omega)
    by_cases q : c j = ins j
    · obtain ⟨r, r1, r2⟩ := ih (j + 1) (x + zi (c j)) (y + zi (c j) * μ 117 j) (by omega)
      refine ⟨r, ?_, ?_⟩
      · rw [B_X12_mayBe_7]
        simp (disch := omega) only [h120, h1.1, h2.1, q, B_X12_mayBe_45, zbi_some, zbl_some, zbv_some, zbi_none, zbl_none, zbv_none, zbi_ite, zbl_ite, zbv_ite, zbZ, zbO, zc_lt, zc_le, zc_ge, zc_gt, zc_eq, zk0, zk1, zk2, zk3, zk4, zk5, zk6, zk7, zk8, zk9, zk10, zk11, zk12, zk14, zk15, zk16, zk17, zk19, zk20, zk21, zk24, zk25, zk30, zk32, zk36, zk40, zk45, zk50, zk64, zk97, zk99, zk100, zk102, zk122, zk128, zk255, zk800, zk801, zk900, zk999, zk1000, zk1997, zk9999, zk10000, zk100000, zk99999, zk9999999, zk999999999, zk2147483647, zlc0, zlc1, zlc2, zlc3, zlc4, zlc23, zlc99, zlc100, zlc9999999, zlc999999999999, zlc1073741824, zi_neg, zi_add, zi_sub, zi_mul, zl_neg, zl_add, zl_sub, zl_mul, zi_toInt, zi_nat, zi_le, zi_lt, zi_eq, zl_le, zl_lt, zl_eq, zl_toInt, zl_of32, zi_of64, zi_div, zl_div, zmodI, ↓reduceIte, zTle, zFle, zTlt, zFlt, zTeq, zFeq, if_true, if_false, and_self, and_true, true_and, and_false, false_and, or_self, or_true, true_or, or_false, false_or, not_true_eq_false, not_false_eq_true, zcastA, zcastL, znatC, zab, Int.reduceAdd, Int.reduceSub, Int.reduceMul, Int.reduceNeg, Int.reduceToNat, Nat.reduceAdd]
        rw [← q]
        exact r1
      · rcases r2 with ⟨a, b⟩ | ⟨a, b⟩
        · exact Or.inl ⟨a, fun h => b fun k h1 h2 => h k (by omega) h2⟩
        · refine Or.inr ⟨a, fun k h1 h2 => ?_⟩
          by_cases z : k = j
          · rw [z]
            exact q
          · exact b k (by omega) h2
    · refine ⟨0, ?_, Or.inl ⟨rfl, fun h => q (h j (by omega) (by omega))⟩⟩
      rw [B_X12_mayBe_7]
      simp (disch := omega) only [h120, h1.1, h2.1, q, zbi_some, zbl_some, zbv_some, zbi_none, zbl_none, zbv_none, zbi_ite, zbl_ite, zbv_ite, zbZ, zbO, zc_lt, zc_le, zc_ge, zc_gt, zc_eq, zk0, zk1, zk2, zk3, zk4, zk5, zk6, zk7, zk8, zk9, zk10, zk11, zk12, zk14, zk15, zk16, zk17, zk19, zk20, zk21, zk24, zk25, zk30, zk32, zk36, zk40, zk45, zk50, zk64, zk97, zk99, zk100, zk102, zk122, zk128, zk255, zk800, zk801, zk900, zk999, zk1000, zk1997, zk9999, zk10000, zk100000, zk99999, zk9999999, zk999999999, zk2147483647, zlc0, zlc1, zlc2, zlc3, zlc4, zlc23, zlc99, zlc100, zlc9999999, zlc999999999999, zlc1073741824, zi_neg, zi_add, zi_sub, zi_mul, zl_neg, zl_add, zl_sub, zl_mul, zi_toInt, zi_nat, zi_le, zi_lt, zi_eq, zl_le, zl_lt, zl_eq, zl_toInt, zl_of32, zi_of64, zi_div, zl_div, zmodI, ↓reduceIte, zTle, zFle, zTlt, zFlt, zTeq, zFeq, if_true, if_false, and_self, and_true, true_and, and_false, false_and, or_self, or_true, true_or, or_false, false_or, not_true_eq_false, not_false_eq_true, zcastA, zcastL, znatC, zab, Int.reduceAdd, Int.reduceSub, Int.reduceMul, Int.reduceNeg, Int.reduceToNat, Nat.reduceAdd]
theorem F_mayBe (d len : Nat) (μ : zMu) (ν : zNu) (b o ra we : Int) (ins w mk c : Nat → Int) (hB : Bm μ b o ra we ins w mk) (hc : ∀ k, k < 5 → μ 125 k = zi (c k) ∧ 0 ≤ c k ∧ c k ≤ 9) : ∃ r : Int, zF zT0 (d + 1) 228 [.ref 92, .int (zi b)] (zm len μ ν) = some (.int (zi r), zm len μ ν) ∧ (r = 0 ∧ ¬ aw o ra we ins w c ∨ r = 1 ∧ aw o ra we ins w c) := by
  obtain ⟨hb, ⟨ho, ho1, ho2⟩, ⟨hra, hra1, hra2⟩, ⟨hwe, hwe1, hwe2⟩, hin, hw, hmk⟩ := hB
  by_cases q : o = 0
  · subst q
    have L := zloop (f := fun j => zE zc_X12_mayBe (zF zT0 d) 7 [.ref 92, .int (zi b), .int (zi (sm j c)), .int (zi (sm j (fun k => c k * w k))), .int (zi (j : Int))] [] (zm len μ ν)) (n := 5) (fun j hj => by
      show zE _ _ _ _ _ _ = zE _ _ _ _ _ _
      rw [B_X12_mayBe_7]
      simp (disch := omega) only [ho, (hc j hj).1, (hw j hj).1, B_X12_mayBe_45, zbi_some, zbl_some, zbv_some, zbi_none, zbl_none, zbv_none, zbi_ite, zbl_ite, zbv_ite, zbZ, zbO, zc_lt, zc_le, zc_ge, zc_gt, zc_eq, zk0, zk1, zk2, zk3, zk4, zk5, zk6, zk7, zk8, zk9, zk10, zk11, zk12, zk14, zk15, zk16, zk17, zk19, zk20, zk21, zk24, zk25, zk30, zk32, zk36, zk40, zk45, zk50, zk64, zk97, zk99, zk100, zk102, zk122, zk128, zk255, zk800, zk801, zk900, zk999, zk1000, zk1997, zk9999, zk10000, zk100000, zk99999, zk9999999, zk999999999, zk2147483647, zlc0, zlc1, zlc2, zlc3, zlc4, zlc23, zlc99, zlc100, zlc9999999, zlc999999999999, zlc1073741824, zi_neg, zi_add, zi_sub, zi_mul, zl_neg, zl_add, zl_sub, zl_mul, zi_toInt, zi_nat, zi_le, zi_lt, zi_eq, zl_le, zl_lt, zl_eq, zl_toInt, zl_of32, zi_of64, zi_div, zl_div, zmodI, ↓reduceIte, zTle, zFle, zTlt, zFlt, zTeq, zFeq, if_true, if_false, and_self, and_true, true_and, and_false, false_and, or_self, or_true, true_or, or_false, false_or, not_true_eq_false, not_false_eq_true, zcastA, zcastL, znatC, zab, Int.reduceAdd, Int.reduceSub, Int.reduceMul, Int.reduceNeg, Int.reduceToNat, Nat.reduceAdd]
      rfl)
    have L0 : zE zc_X12_mayBe (zF zT0 d) 7 [.ref 92, .int (zi b), .int (zi 0), .int (zi 0), .int (zi 0)] [] (zm len μ ν) = zE zc_X12_mayBe (zF zT0 d) 7 [.ref 92, .int (zi b), .int (zi (sm 5 c)), .int (zi (sm 5 (fun k => c k * w k))), .int (zi 5)] [] (zm len μ ν) := L
    have s5 : ∀ f : Nat → Int, sm 5 f = f 0 + f 1 + f 2 + f 3 + f 4 := fun f => by
      show 0 + f 0 + f 1 + f 2 + f 3 + f 4 = _
      omega
    have sb := sm_b (n := 5) (f := c) (B := 9) (fun j hj => (hc j hj).2)
    have sb2 := sm_b (n := 5) (f := fun k => c k * w k) (B := 180) (fun j hj => by
      have h1 := (hc j hj).2
      have h2 := (hw j hj).2
      have h3 : 0 ≤ c j * w j := Int.mul_nonneg (by omega) (by omega)
      have h4 : c j * w j ≤ 9 * 20 := Int.mul_le_mul (by omega) (by omega) (by omega) (by omega)
      omega)
    have eA : aw 0 ra we ins w c ↔ (ra = -1 ∨ ra = sm 5 c) ∧ (we = -1 ∨ we = sm 5 (fun k => c k * w k)) := by
      rw [s5, s5]
      unfold aw
      constructor
      · intro h
        rcases h with h | h
        · exact absurd rfl h.1
        · exact ⟨h.2.1, h.2.2⟩
      · intro h
        exact Or.inr ⟨rfl, h.1, h.2⟩
    obtain ⟨s, hs⟩ : ∃ s, s = sm 5 c := ⟨_, rfl⟩
    obtain ⟨u, hu⟩ : ∃ u, u = sm 5 (fun k => c k * w k) := ⟨_, rfl⟩
    rw [← hs, ← hu] at eA L0
    rw [← hs] at sb
    rw [← hu] at sb2
    have G : zF zT0 (d + 1) 228 [.ref 92, .int (zi b)] (zm len μ ν) = zE zc_X12_mayBe (zF zT0 d) 7 [.ref 92, .int (zi b), .int (zi s), .int (zi u), .int (zi 5)] [] (zm len μ ν) := by
      rw [B_X12_mayBe, ← L0]
      rfl
    rw [G, B_X12_mayBe_7]
    by_cases c1 : ra = -1 ∨ ra = s
    · have K : zE zc_X12_mayBe (zF zT0 d) 108 [.ref 92, .int (zi b), .int (zi s), .int (zi u), .int (zi 5)] [] (zm len μ ν) = some (.int (zi (if we = -1 ∨ we = u then 1 else 0)), zm len μ ν) := by
        rw [B_X12_mayBe_108]
        by_cases c2 : we = -1
        · simp (disch := omega) only [hwe, c2, zbi_some, zbl_some, zbv_some, zbi_none, zbl_none, zbv_none, zbi_ite, zbl_ite, zbv_ite, zbZ, zbO, zc_lt, zc_le, zc_ge, zc_gt, zc_eq, zk0, zk1, zk2, zk3, zk4, zk5, zk6, zk7, zk8, zk9, zk10, zk11, zk12, zk14, zk15, zk16, zk17, zk19, zk20, zk21, zk24, zk25, zk30, zk32, zk36, zk40, zk45, zk50, zk64, zk97, zk99, zk100, zk102, zk122, zk128, zk255, zk800, zk801, zk900, zk999, zk1000, zk1997, zk9999, zk10000, zk100000, zk99999, zk9999999, zk999999999, zk2147483647, zlc0, zlc1, zlc2, zlc3, zlc4, zlc23, zlc99, zlc100, zlc9999999, zlc999999999999, zlc1073741824, zi_neg, zi_add, zi_sub, zi_mul, zl_neg, zl_add, zl_sub, zl_mul, zi_toInt, zi_nat, zi_le, zi_lt, zi_eq, zl_le, zl_lt, zl_eq, zl_toInt, zl_of32, zi_of64, zi_div, zl_div, zmodI, ↓reduceIte, zTle, zFle, zTlt, zFlt, zTeq, zFeq, if_true, if_false, and_self, and_true, true_and, and_false, false_and, or_self, or_true, true_or, or_false, false_or, not_true_eq_false, not_false_eq_true, zcastA, zcastL, znatC, zab, Int.reduceAdd, Int.reduceSub, Int.reduceMul, Int.reduceNeg, Int.reduceToNat, Nat.reduceAdd]
        · by_cases c3 : we = u
          · simp (disch := omega) only [hwe, c2, c3, zbi_some, zbl_some, zbv_some, zbi_none, zbl_none, zbv_none, zbi_ite, zbl_ite, zbv_ite, zbZ, zbO, zc_lt, zc_le, zc_ge, zc_gt, zc_eq, zk0, zk1, zk2, zk3, zk4, zk5, zk6, zk7, zk8, zk9, zk10, zk11, zk12, zk14, zk15, zk16, zk17, zk19, zk20, zk21, zk24, zk25, zk30, zk32, zk36, zk40, zk45, zk50, zk64, zk97, zk99, zk100, zk102, zk122, zk128, zk255, zk800, zk801, zk900, zk999, zk1000, zk1997, zk9999, zk10000, zk100000, zk99999, zk9999999, zk999999999, zk2147483647, zlc0, zlc1, zlc2, zlc3, zlc4, zlc23, zlc99, zlc100, zlc9999999, zlc999999999999, zlc1073741824, zi_neg, zi_add, zi_sub, zi_mul, zl_neg, zl_add, zl_sub, zl_mul, zi_toInt, zi_nat, zi_le, zi_lt, zi_eq, zl_le, zl_lt, zl_eq, zl_toInt, zl_of32, zi_of64, zi_div, zl_div, zmodI, ↓reduceIte, zTle, zFle, zTlt, zFlt, zTeq, zFeq, if_true, if_false, and_self, and_true, true_and, and_false, false_and, or_self, or_true, true_or, or_false, false_or, not_true_eq_false, not_false_eq_true, zcastA, zcastL, znatC, zab, Int.reduceAdd, Int.reduceSub, Int.reduceMul, Int.reduceNeg, Int.reduceToNat, Nat.reduceAdd]
          · simp (disch := omega) only [hwe, c2, c3, zbi_some, zbl_some, zbv_some, zbi_none, zbl_none, zbv_none, zbi_ite, zbl_ite, zbv_ite, zbZ, zbO, zc_lt, zc_le, zc_ge, zc_gt, zc_eq, zk0, zk1, zk2, zk3, zk4, zk5, zk6, zk7, zk8, zk9, zk10, zk11, zk12, zk14, zk15, zk16, zk17, zk19, zk20, zk21, zk24, zk25, zk30, zk32, zk36, zk40, zk45, zk50, zk64, zk97, zk99, zk100, zk102, zk122, zk128, zk255, zk800, zk801, zk900, zk999, zk1000, zk1997, zk9999, zk10000, zk100000, zk99999, zk9999999, zk999999999, zk2147483647, zlc0, zlc1, zlc2, zlc3, zlc4, zlc23, zlc99, zlc100, zlc9999999, zlc999999999999, zlc1073741824, zi_neg, zi_add, zi_sub, zi_mul, zl_neg, zl_add, zl_sub, zl_mul, zi_toInt, zi_nat, zi_le, zi_lt, zi_eq, zl_le, zl_lt, zl_eq, zl_toInt, zl_of32, zi_of64, zi_div, zl_div, zmodI, ↓reduceIte, zTle, zFle, zTlt, zFlt, zTeq, zFeq, if_true, if_false, and_self, and_true, true_and, and_false, false_and, or_self, or_true, true_or, or_false, false_or, not_true_eq_false, not_false_eq_true, zcastA, zcastL, znatC, zab, Int.reduceAdd, Int.reduceSub, Int.reduceMul, Int.reduceNeg, Int.reduceToNat, Nat.reduceAdd]
      have E : (if 5 ≤ zi 5 then zE zc_X12_mayBe (zF zT0 d) 108 [.ref 92, .int (zi b), .int (zi s), .int (zi u), .int (zi 5)] [] (zm len μ ν) else none) = zE zc_X12_mayBe (zF zT0 d) 108 [.ref 92, .int (zi b), .int (zi s), .int (zi u), .int (zi 5)] [] (zm len μ ν) := if_pos (by decide)
      by_cases c2 : we = -1 ∨ we = u
      · refine ⟨1, ?_, Or.inr ⟨rfl, eA.mpr ⟨c1, c2⟩⟩⟩
        rw [if_pos c2] at K
        by_cases c3 : ra = -1
        · simp (disch := omega) only [ho, hra, c3, K, zbi_some, zbl_some, zbv_some, zbi_none, zbl_none, zbv_none, zbi_ite, zbl_ite, zbv_ite, zbZ, zbO, zc_lt, zc_le, zc_ge, zc_gt, zc_eq, zk0, zk1, zk2, zk3, zk4, zk5, zk6, zk7, zk8, zk9, zk10, zk11, zk12, zk14, zk15, zk16, zk17, zk19, zk20, zk21, zk24, zk25, zk30, zk32, zk36, zk40, zk45, zk50, zk64, zk97, zk99, zk100, zk102, zk122, zk128, zk255, zk800, zk801, zk900, zk999, zk1000, zk1997, zk9999, zk10000, zk100000, zk99999, zk9999999, zk999999999, zk2147483647, zlc0, zlc1, zlc2, zlc3, zlc4, zlc23, zlc99, zlc100, zlc9999999, zlc999999999999, zlc1073741824, zi_neg, zi_add, zi_sub, zi_mul, zl_neg, zl_add, zl_sub, zl_mul, zi_toInt, zi_nat, zi_le, zi_lt, zi_eq, zl_le, zl_lt, zl_eq, zl_toInt, zl_of32, zi_of64, zi_div, zl_div, zmodI, ↓reduceIte, zTle, zFle, zTlt, zFlt, zTeq, zFeq, if_true, if_false, and_self, and_true, true_and, and_false, false_and, or_self, or_true, true_or, or_false, false_or, not_true_eq_false, not_false_eq_true, zcastA, zcastL, znatC, zab, Int.reduceAdd, Int.reduceSub, Int.reduceMul, Int.reduceNeg, Int.reduceToNat, Nat.reduceAdd]
        · have c4 : ra = s := by omega
          simp (disch := omega) only [ho, hra, c3, c4, K, zbi_some, zbl_some, zbv_some, zbi_none, zbl_none, zbv_none, zbi_ite, zbl_ite, zbv_ite, zbZ, zbO, zc_lt, zc_le, zc_ge, zc_gt, zc_eq, zk0, zk1, zk2, zk3, zk4, zk5, zk6, zk7, zk8, zk9, zk10, zk11, zk12, zk14, zk15, zk16, zk17, zk19, zk20, zk21, zk24, zk25, zk30, zk32, zk36, zk40, zk45, zk50, zk64, zk97, zk99, zk100, zk102, zk122, zk128, zk255, zk800, zk801, zk900, zk999, zk1000, zk1997, zk9999, zk10000, zk100000, zk99999, zk9999999, zk999999999, zk2147483647, zlc0, zlc1, zlc2, zlc3, zlc4, zlc23, zlc99, zlc100, zlc9999999, zlc999999999999, zlc1073741824, zi_neg, zi_add, zi_sub, zi_mul, zl_neg, zl_add, zl_sub, zl_mul, zi_toInt, zi_nat, zi_le, zi_lt, zi_eq, zl_le, zl_lt, zl_eq, zl_toInt, zl_of32, zi_of64, zi_div, zl_div, zmodI, ↓reduceIte, zTle, zFle, zTlt, zFlt, zTeq, zFeq, if_true, if_false, and_self, and_true, true_and, and_false, false_and, or_self, or_true, true_or, or_false, false_or, not_true_eq_false, not_false_eq_true, zcastA, zcastL, znatC, zab, Int.reduceAdd, Int.reduceSub, Int.reduceMul, Int.reduceNeg, Int.reduceToNat, Nat.reduceAdd]
      · refine ⟨0, ?_, Or.inl ⟨rfl, fun h => c2 (eA.mp h).2⟩⟩
        rw [if_neg c2] at K
        by_cases c3 : ra = -1
        · simp (disch := omega) only [ho, hra, c3, K, zbi_some, zbl_some, zbv_some, zbi_none, zbl_none, zbv_none, zbi_ite, zbl_ite, zbv_ite, zbZ, zbO, zc_lt, zc_le, zc_ge, zc_gt, zc_eq, zk0, zk1, zk2, zk3, zk4, zk5, zk6, zk7, zk8, zk9, zk10, zk11, zk12, zk14, zk15, zk16, zk17, zk19, zk20, zk21, zk24, zk25, zk30, zk32, zk36, zk40, zk45, zk50, zk64, zk97, zk99, zk100, zk102, zk122, zk128, zk255, zk800, zk801, zk900, zk999, zk1000, zk1997, zk9999, zk10000, zk100000, zk99999, zk9999999, zk999999999, zk2147483647, zlc0, zlc1, zlc2, zlc3, zlc4, zlc23, zlc99, zlc100, zlc9999999, zlc999999999999, zlc1073741824, zi_neg, zi_add, zi_sub, zi_mul, zl_neg, zl_add, zl_sub, zl_mul, zi_toInt, zi_nat, zi_le, zi_lt, zi_eq, zl_le, zl_lt, zl_eq, zl_toInt, zl_of32, zi_of64, zi_div, zl_div, zmodI, ↓reduceIte, zTle, zFle, zTlt, zFlt, zTeq, zFeq, if_true, if_false, and_self, and_true, true_and, and_false, false_and, or_self, or_true, true_or, or_false, false_or, not_true_eq_false, not_false_eq_true, zcastA, zcastL, znatC, zab, Int.reduceAdd, Int.reduceSub, Int.reduceMul, Int.reduceNeg, Int.reduceToNat, Nat.reduceAdd]
        · have c4 : ra = s := by omega
          simp (disch := omega) only [ho, hra, c3, c4, K, zbi_some, zbl_some, zbv_some, zbi_none, zbl_none, zbv_none, zbi_ite, zbl_ite, zbv_ite, zbZ, zbO, zc_lt, zc_le, zc_ge, zc_gt, zc_eq, zk0, zk1, zk2, zk3, zk4, zk5, zk6, zk7, zk8, zk9, zk10, zk11, zk12, zk14, zk15, zk16, zk17, zk19, zk20, zk21, zk24, zk25, zk30, zk32, zk36, zk40, zk45, zk50, zk64, zk97, zk99, zk100, zk102, zk122, zk128, zk255, zk800, zk801, zk900, zk999, zk1000, zk1997, zk9999, zk10000, zk100000, zk99999, zk9999999, zk999999999, zk2147483647, zlc0, zlc1, zlc2, zlc3, zlc4, zlc23, zlc99, zlc100, zlc9999999, zlc999999999999, zlc1073741824, zi_neg, zi_add, zi_sub, zi_mul, zl_neg, zl_add, zl_sub, zl_mul, zi_toInt, zi_nat, zi_le, zi_lt, zi_eq, zl_le, zl_lt, zl_eq, zl_toInt, zl_of32, zi_of64, zi_div, zl_div, zmodI, ↓reduceIte, zTle, zFle, zTlt, zFlt, zTeq, zFeq, if_true, if_false, and_self, and_true, true_and, and_false, false_and, or_self, or_true, true_or, or_false, false_or, not_true_eq_false, not_false_eq_true, zcastA, zcastL, znatC, zab, Int.reduceAdd, Int.reduceSub, Int.reduceMul, Int.reduceNeg, Int.reduceToNat, Nat.reduceAdd]
    · refine ⟨0, ?_, Or.inl ⟨rfl, fun h => c1 (eA.mp h).1⟩⟩
      have c3 : ¬ ra = -1 := fun h => c1 (Or.inl h)
      have c4 : ¬ ra = s := fun h => c1 (Or.inr h)
      simp (disch := omega) only [ho, hra, c3, c4, zbi_some, zbl_some, zbv_some, zbi_none, zbl_none, zbv_none, zbi_ite, zbl_ite, zbv_ite, zbZ, zbO, zc_lt, zc_le, zc_ge, zc_gt, zc_eq, zk0, zk1, zk2, zk3, zk4, zk5, zk6, zk7, zk8, zk9, zk10, zk11, zk12, zk14, zk15, zk16, zk17, zk19, zk20, zk21, zk24, zk25, zk30, zk32, zk36, zk40, zk45, zk50, zk64, zk97, zk99, zk100, zk102, zk122, zk128, zk255, zk800, zk801, zk900, zk999, zk1000, zk1997, zk9999, zk10000, zk100000, zk99999, zk9999999, zk999999999, zk2147483647, zlc0, zlc1, zlc2, zlc3, zlc4, zlc23, zlc99, zlc100, zlc9999999, zlc999999999999, zlc1073741824, zi_neg, zi_add, zi_sub, zi_mul, zl_neg, zl_add, zl_sub, zl_mul, zi_toInt, zi_nat, zi_le, zi_lt, zi_eq, zl_le, zl_lt, zl_eq, zl_toInt, zl_of32, zi_of64, zi_div, zl_div, zmodI, ↓reduceIte, zTle, zFle, zTlt, zFlt, zTeq, zFeq, if_true, if_false, and_self, and_true, true_and, and_false, false_and, or_self, or_true, true_or, or_false, false_or, not_true_eq_false, not_false_eq_true, zcastA, zcastL, znatC, zab, Int.reduceAdd, Int.reduceSub, Int.reduceMul, Int.reduceNeg, Int.reduceToNat, Nat.reduceAdd]
  · have q1 : o = 1 := by omega
    subst q1
    obtain ⟨r, r1, r2⟩ := mb_o (zF zT0 d) len μ ν b c ins hb ho hc hin 5 0 0 0 rfl
    refine ⟨r, ?_, ?_⟩
    · rw [B_X12_mayBe]
      exact r1
    · have e : aw 1 ra we ins w c ↔ ∀ k, 0 ≤ k → k < 5 → c k = ins k := by
        constructor
        · intro h
          rcases h with h | h
          · intro k _ hk
            have h' : k = 0 ∨ k = 1 ∨ k = 2 ∨ k = 3 ∨ k = 4 := by omega
            rcases h' with e | e | e | e | e <;> subst e
            · exact h.2.1
            · exact h.2.2.1
            · exact h.2.2.2.1
            · exact h.2.2.2.2.1
            · exact h.2.2.2.2.2
          · exact absurd h.1 (by decide)
        · intro h
          exact Or.inl ⟨by decide, h 0 (by omega) (by omega), h 1 (by omega) (by omega), h 2 (by omega) (by omega), h 3 (by omega) (by omega), h 4 (by omega) (by omega)⟩
      rw [e]
      exact r2
theorem F_notes (d len : Nat) (μ : zMu) (ν : zNu) (b wys ls : Int) (mk c lo hi : Nat → Int) (hb : 0 ≤ b ∧ b < 8) (hmk : ∀ k : Nat, k < 5 → μ 122 (5 * b + (k : Int)).toNat = zi (mk k) ∧ 0 ≤ mk k ∧ mk k ≤ 9) (hc : ∀ k, k < 5 → μ 125 k = zi (c k) ∧ 0 ≤ c k ∧ c k ≤ 9) (hw : μ 92 47 = zi wys) (hwb : 0 ≤ wys ∧ wys ≤ 200000) (hl : wys ≠ 0 → (μ 92 48 = zi ls ∧ 0 ≤ ls ∧ ls ≤ 45) ∧ ∀ k, k < 5 → (μ 123 k = zi (lo k) ∧ 0 ≤ lo k ∧ lo k ≤ 9) ∧ μ 124 k = zi (hi k) ∧ 0 ≤ hi k ∧ hi k ≤ 9) : ∃ μ' : zMu, zF zT0 (d + 1) 229 [.ref 92, .int (zi b)] (zm len μ ν) = some (.null, zm len μ' ν) ∧ (∀ r, r ≠ 92 → r ≠ 123 → r ≠ 124 → μ' r = μ r) ∧ (∀ j, j ≠ 47 → j ≠ 48 → μ' 92 j = μ 92 j) ∧ μ' 92 47 = zi (wys + 1) ∧ μ' 92 48 = zi (if wys = 0 then fr mk c else if ls ≤ fr mk c then ls else fr mk c) ∧ ∀ k, k < 5 → μ' 123 k = zi (if wys = 0 then c k else if lo k ≤ c k then lo k else c k) ∧ μ' 124 k = zi (if wys = 0 then c k else if c k ≤ hi k then hi k else c k) := by
  obtain ⟨R3, p1, p2, p3, p4⟩ := zfill_ex (fun k => zi (if wys = 0 then c k else if lo k ≤ c k then lo k else c k)) (μ 123)
  obtain ⟨R4, q1, q2, q3, q4⟩ := zfill_ex (fun k => zi (if wys = 0 then c k else if c k ≤ hi k then hi k else c k)) (μ 124)
  have rd : ∀ j r, r ≠ 123 → r ≠ 124 → (zrw (zrw μ 123 (R3 j)) 124 (R4 j)) r = μ r := fun j r h1 h2 => by rw [zrw_n _ _ h2, zrw_n _ _ h1]
  have r123 : ∀ j, (zrw (zrw μ 123 (R3 j)) 124 (R4 j)) 123 = R3 j := fun j => by rw [zrw_n _ _ (by decide), zrw_s]
  have r124 : ∀ j, (zrw (zrw μ 123 (R3 j)) 124 (R4 j)) 124 = R4 j := fun j => by rw [zrw_s]
  have L := zloopV (f := fun j v => zE zc_X12_notesBall (zF zT0 d) 4 [.ref 92, .int (zi b), .int (zi (sm j (fun k => ab (c k - mk k)))), .int (zi (j : Int)), v] [] (zm len (zrw (zrw μ 123 (R3 j)) 124 (R4 j)) ν)) (n := 5) (fun j v hj => by
    have m1 := hmk j hj
    have m2 := hc j hj
    have a1 : (zrw (zrw μ 123 (R3 j)) 124 (R4 j)) 122 (5 * b + (j : Int)).toNat = zi (mk j) := by rw [rd j 122 (by decide) (by decide)]; exact m1.1
    have a2 : (zrw (zrw μ 123 (R3 j)) 124 (R4 j)) 125 j = zi (c j) := by rw [rd j 125 (by decide) (by decide)]; exact m2.1
    have a3 : (zrw (zrw μ 123 (R3 j)) 124 (R4 j)) 92 47 = zi wys := by rw [rd j 92 (by decide) (by decide)]; exact hw
    refine ⟨.int (zi (c j - mk j)), ?_⟩
    show zE _ _ _ _ _ _ = zE _ _ _ _ _ _
    have H : zE zc_X12_notesBall (zF zT0 d) 4 [.ref 92, .int (zi b), .int (zi (sm j (fun k => ab (c k - mk k)))), .int (zi (j : Int)), v] [] (zm len (zrw (zrw μ 123 (R3 j)) 124 (R4 j)) ν) = zE zc_X12_notesBall (zF zT0 d) 42 [.ref 92, .int (zi b), .int (zi (sm j (fun k => ab (c k - mk k)))), .int (zi (j : Int)), .int (zi (c j - mk j))] [.int (zi (ab (c j - mk j))), .int (zi (sm j (fun k => ab (c k - mk k))))] (zm len (zrw (zrw μ 123 (R3 j)) 124 (R4 j)) ν) := by
      rw [B_X12_notesBall_4]
      unfold ab
      by_cases z : 0 ≤ c j - mk j
      · simp (disch := omega) only [a1, a2, z, zbi_some, zbl_some, zbv_some, zbi_none, zbl_none, zbv_none, zbi_ite, zbl_ite, zbv_ite, zbZ, zbO, zc_lt, zc_le, zc_ge, zc_gt, zc_eq, zk0, zk1, zk2, zk3, zk4, zk5, zk6, zk7, zk8, zk9, zk10, zk11, zk12, zk14, zk15, zk16, zk17, zk19, zk20, zk21, zk24, zk25, zk30, zk32, zk36, zk40, zk45, zk50, zk64, zk97, zk99, zk100, zk102, zk122, zk128, zk255, zk800, zk801, zk900, zk999, zk1000, zk1997, zk9999, zk10000, zk100000, zk99999, zk9999999, zk999999999, zk2147483647, zlc0, zlc1, zlc2, zlc3, zlc4, zlc23, zlc99, zlc100, zlc9999999, zlc999999999999, zlc1073741824, zi_neg, zi_add, zi_sub, zi_mul, zl_neg, zl_add, zl_sub, zl_mul, zi_toInt, zi_nat, zi_le, zi_lt, zi_eq, zl_le, zl_lt, zl_eq, zl_toInt, zl_of32, zi_of64, zi_div, zl_div, zmodI, ↓reduceIte, zTle, zFle, zTlt, zFlt, zTeq, zFeq, if_true, if_false, and_self, and_true, true_and, and_false, false_and, or_self, or_true, true_or, or_false, false_or, not_true_eq_false, not_false_eq_true, zcastA, zcastL, znatC, zab, Int.reduceAdd, Int.reduceSub, Int.reduceMul, Int.reduceNeg, Int.reduceToNat, Nat.reduceAdd]
      · simp (disch := omega) only [a1, a2, z, zbi_some, zbl_some, zbv_some, zbi_none, zbl_none, zbv_none, zbi_ite, zbl_ite, zbv_ite, zbZ, zbO, zc_lt, zc_le, zc_ge, zc_gt, zc_eq, zk0, zk1, zk2, zk3, zk4, zk5, zk6, zk7, zk8, zk9, zk10, zk11, zk12, zk14, zk15, zk16, zk17, zk19, zk20, zk21, zk24, zk25, zk30, zk32, zk36, zk40, zk45, zk50, zk64, zk97, zk99, zk100, zk102, zk122, zk128, zk255, zk800, zk801, zk900, zk999, zk1000, zk1997, zk9999, zk10000, zk100000, zk99999, zk9999999, zk999999999, zk2147483647, zlc0, zlc1, zlc2, zlc3, zlc4, zlc23, zlc99, zlc100, zlc9999999, zlc999999999999, zlc1073741824, zi_neg, zi_add, zi_sub, zi_mul, zl_neg, zl_add, zl_sub, zl_mul, zi_toInt, zi_nat, zi_le, zi_lt, zi_eq, zl_le, zl_lt, zl_eq, zl_toInt, zl_of32, zi_of64, zi_div, zl_div, zmodI, ↓reduceIte, zTle, zFle, zTlt, zFlt, zTeq, zFeq, if_true, if_false, and_self, and_true, true_and, and_false, false_and, or_self, or_true, true_or, or_false, false_or, not_true_eq_false, not_false_eq_true, zcastA, zcastL, znatC, zab, Int.reduceAdd, Int.reduceSub, Int.reduceMul, Int.reduceNeg, Int.reduceToNat, Nat.reduceAdd]
    have u3 : upd (R3 j) j (zi (if wys = 0 then c j else if lo j ≤ c j then lo j else c j)) = R3 (j + 1) := p2 j
    have u4 : upd (R4 j) j (zi (if wys = 0 then c j else if c j ≤ hi j then hi j else c j)) = R4 (j + 1) := q2 j
    have s3 : R3 j j = μ 123 j := p4 j j (by omega)
    have s4 : R4 j j = μ 124 j := q4 j j (by omega)
    have b2 : ∀ f, (zrw (zrw μ 123 f) 124 (R4 j)) 125 j = zi (c j) := fun f => by rw [zrw_n _ _ (by decide), zrw_n _ _ (by decide)]; exact m2.1
    have b3 : ∀ f, (zrw (zrw μ 123 f) 124 (R4 j)) 92 47 = zi wys := fun f => by rw [zrw_n _ _ (by decide), zrw_n _ _ (by decide)]; exact hw
    have b4 : ∀ f, (zrw (zrw μ 123 f) 124 (R4 j)) 124 j = μ 124 j := fun f => by rw [zrw_s]; exact s4
    have b5 : (zrw (zrw μ 123 (R3 j)) 124 (R4 j)) 123 j = μ 123 j := by rw [r123]; exact s3
    have b6 : (zrw (zrw μ 123 (R3 j)) 124 (R4 j)) 124 j = μ 124 j := by rw [r124]; exact s4
    have up1 : ∀ f v, zup (zrw (zrw μ 123 f) 124 (R4 j)) 123 j v = zrw (zrw μ 123 (upd f j v)) 124 (R4 j) := fun f v => by rw [zup_zrw_n _ _ _ _ (show (124 : Nat) ≠ 123 by decide), zup_zrw]
    have up2 : ∀ f v, zup (zrw (zrw μ 123 f) 124 (R4 j)) 124 j v = zrw (zrw μ 123 f) 124 (upd (R4 j) j v) := fun f v => by rw [zup_zrw]
    rw [H, sm_S]
    by_cases z0 : wys = 0
    · rw [if_pos z0] at u3 u4
      rw [B_X12_notesBall_42]
      simp (disch := omega) only [a3, z0, B_X12_notesBall_66, a2, up1, u3, B_X12_notesBall_78, b3, B_X12_notesBall_100, b2, up2, u4, B_X12_notesBall_112, zbi_some, zbl_some, zbv_some, zbi_none, zbl_none, zbv_none, zbi_ite, zbl_ite, zbv_ite, zbZ, zbO, zc_lt, zc_le, zc_ge, zc_gt, zc_eq, zk0, zk1, zk2, zk3, zk4, zk5, zk6, zk7, zk8, zk9, zk10, zk11, zk12, zk14, zk15, zk16, zk17, zk19, zk20, zk21, zk24, zk25, zk30, zk32, zk36, zk40, zk45, zk50, zk64, zk97, zk99, zk100, zk102, zk122, zk128, zk255, zk800, zk801, zk900, zk999, zk1000, zk1997, zk9999, zk10000, zk100000, zk99999, zk9999999, zk999999999, zk2147483647, zlc0, zlc1, zlc2, zlc3, zlc4, zlc23, zlc99, zlc100, zlc9999999, zlc999999999999, zlc1073741824, zi_neg, zi_add, zi_sub, zi_mul, zl_neg, zl_add, zl_sub, zl_mul, zi_toInt, zi_nat, zi_le, zi_lt, zi_eq, zl_le, zl_lt, zl_eq, zl_toInt, zl_of32, zi_of64, zi_div, zl_div, zmodI, ↓reduceIte, zTle, zFle, zTlt, zFlt, zTeq, zFeq, if_true, if_false, and_self, and_true, true_and, and_false, false_and, or_self, or_true, true_or, or_false, false_or, not_true_eq_false, not_false_eq_true, zcastA, zcastL, znatC, zab, Int.reduceAdd, Int.reduceSub, Int.reduceMul, Int.reduceNeg, Int.reduceToNat, Nat.reduceAdd]
    · rw [if_neg z0] at u3 u4
      obtain ⟨hl1, hl2⟩ := hl z0
      obtain ⟨⟨l1, l2, l3⟩, l4, l5, l6⟩ := hl2 j hj
      by_cases z1 : lo j ≤ c j
      · rw [if_pos z1, ← l1, ← s3, upd_self_eq] at u3
        by_cases z2 : c j ≤ hi j
        · rw [if_pos z2, ← l4, ← s4, upd_self_eq] at u4
          rw [← u3, ← u4, B_X12_notesBall_42]
          simp (disch := omega) only [a3, z0, b5, l1, a2, z1, B_X12_notesBall_78, b6, l4, z2, B_X12_notesBall_112, zbi_some, zbl_some, zbv_some, zbi_none, zbl_none, zbv_none, zbi_ite, zbl_ite, zbv_ite, zbZ, zbO, zc_lt, zc_le, zc_ge, zc_gt, zc_eq, zk0, zk1, zk2, zk3, zk4, zk5, zk6, zk7, zk8, zk9, zk10, zk11, zk12, zk14, zk15, zk16, zk17, zk19, zk20, zk21, zk24, zk25, zk30, zk32, zk36, zk40, zk45, zk50, zk64, zk97, zk99, zk100, zk102, zk122, zk128, zk255, zk800, zk801, zk900, zk999, zk1000, zk1997, zk9999, zk10000, zk100000, zk99999, zk9999999, zk999999999, zk2147483647, zlc0, zlc1, zlc2, zlc3, zlc4, zlc23, zlc99, zlc100, zlc9999999, zlc999999999999, zlc1073741824, zi_neg, zi_add, zi_sub, zi_mul, zl_neg, zl_add, zl_sub, zl_mul, zi_toInt, zi_nat, zi_le, zi_lt, zi_eq, zl_le, zl_lt, zl_eq, zl_toInt, zl_of32, zi_of64, zi_div, zl_div, zmodI, ↓reduceIte, zTle, zFle, zTlt, zFlt, zTeq, zFeq, if_true, if_false, and_self, and_true, true_and, and_false, false_and, or_self, or_true, true_or, or_false, false_or, not_true_eq_false, not_false_eq_true, zcastA, zcastL, znatC, zab, Int.reduceAdd, Int.reduceSub, Int.reduceMul, Int.reduceNeg, Int.reduceToNat, Nat.reduceAdd]
        · rw [if_neg z2] at u4
          rw [← u3, ← u4, B_X12_notesBall_42]
          simp (disch := omega) only [a3, z0, b5, l1, a2, z1, B_X12_notesBall_78, b6, l4, z2, B_X12_notesBall_100, up2, B_X12_notesBall_112, zbi_some, zbl_some, zbv_some, zbi_none, zbl_none, zbv_none, zbi_ite, zbl_ite, zbv_ite, zbZ, zbO, zc_lt, zc_le, zc_ge, zc_gt, zc_eq, zk0, zk1, zk2, zk3, zk4, zk5, zk6, zk7, zk8, zk9, zk10, zk11, zk12, zk14, zk15, zk16, zk17, zk19, zk20, zk21, zk24, zk25, zk30, zk32, zk36, zk40, zk45, zk50, zk64, zk97, zk99, zk100, zk102, zk122, zk128, zk255, zk800, zk801, zk900, zk999, zk1000, zk1997, zk9999, zk10000, zk100000, zk99999, zk9999999, zk999999999, zk2147483647, zlc0, zlc1, zlc2, zlc3, zlc4, zlc23, zlc99, zlc100, zlc9999999, zlc999999999999, zlc1073741824, zi_neg, zi_add, zi_sub, zi_mul, zl_neg, zl_add, zl_sub, zl_mul, zi_toInt, zi_nat, zi_le, zi_lt, zi_eq, zl_le, zl_lt, zl_eq, zl_toInt, zl_of32, zi_of64, zi_div, zl_div, zmodI, ↓reduceIte, zTle, zFle, zTlt, zFlt, zTeq, zFeq, if_true, if_false, and_self, and_true, true_and, and_false, false_and, or_self, or_true, true_or, or_false, false_or, not_true_eq_false, not_false_eq_true, zcastA, zcastL, znatC, zab, Int.reduceAdd, Int.reduceSub, Int.reduceMul, Int.reduceNeg, Int.reduceToNat, Nat.reduceAdd]
      · rw [if_neg z1] at u3
        by_cases z2 : c j ≤ hi j
        · rw [if_pos z2, ← l4, ← s4, upd_self_eq] at u4
          rw [← u3, ← u4, B_X12_notesBall_42]
          simp (disch := omega) only [a3, z0, b5, l1, a2, z1, B_X12_notesBall_66, up1, B_X12_notesBall_78, b3, b4, b2, l4, z2, B_X12_notesBall_112, zbi_some, zbl_some, zbv_some, zbi_none, zbl_none, zbv_none, zbi_ite, zbl_ite, zbv_ite, zbZ, zbO, zc_lt, zc_le, zc_ge, zc_gt, zc_eq, zk0, zk1, zk2, zk3, zk4, zk5, zk6, zk7, zk8, zk9, zk10, zk11, zk12, zk14, zk15, zk16, zk17, zk19, zk20, zk21, zk24, zk25, zk30, zk32, zk36, zk40, zk45, zk50, zk64, zk97, zk99, zk100, zk102, zk122, zk128, zk255, zk800, zk801, zk900, zk999, zk1000, zk1997, zk9999, zk10000, zk100000, zk99999, zk9999999, zk999999999, zk2147483647, zlc0, zlc1, zlc2, zlc3, zlc4, zlc23, zlc99, zlc100, zlc9999999, zlc999999999999, zlc1073741824, zi_neg, zi_add, zi_sub, zi_mul, zl_neg, zl_add, zl_sub, zl_mul, zi_toInt, zi_nat, zi_le, zi_lt, zi_eq, zl_le, zl_lt, zl_eq, zl_toInt, zl_of32, zi_of64, zi_div, zl_div, zmodI, ↓reduceIte, zTle, zFle, zTlt, zFlt, zTeq, zFeq, if_true, if_false, and_self, and_true, true_and, and_false, false_and, or_self, or_true, true_or, or_false, false_or, not_true_eq_false, not_false_eq_true, zcastA, zcastL, znatC, zab, Int.reduceAdd, Int.reduceSub, Int.reduceMul, Int.reduceNeg, Int.reduceToNat, Nat.reduceAdd]
        · rw [if_neg z2] at u4
          rw [← u3, ← u4, B_X12_notesBall_42]
          simp (disch := omega) only [a3, z0, b5, l1, a2, z1, B_X12_notesBall_66, up1, B_X12_notesBall_78, b3, b4, b2, l4, z2, B_X12_notesBall_100, up2, B_X12_notesBall_112, zbi_some, zbl_some, zbv_some, zbi_none, zbl_none, zbv_none, zbi_ite, zbl_ite, zbv_ite, zbZ, zbO, zc_lt, zc_le, zc_ge, zc_gt, zc_eq, zk0, zk1, zk2, zk3, zk4, zk5, zk6, zk7, zk8, zk9, zk10, zk11, zk12, zk14, zk15, zk16, zk17, zk19, zk20, zk21, zk24, zk25, zk30, zk32, zk36, zk40, zk45, zk50, zk64, zk97, zk99, zk100, zk102, zk122, zk128, zk255, zk800, zk801, zk900, zk999, zk1000, zk1997, zk9999, zk10000, zk100000, zk99999, zk9999999, zk999999999, zk2147483647, zlc0, zlc1, zlc2, zlc3, zlc4, zlc23, zlc99, zlc100, zlc9999999, zlc999999999999, zlc1073741824, zi_neg, zi_add, zi_sub, zi_mul, zl_neg, zl_add, zl_sub, zl_mul, zi_toInt, zi_nat, zi_le, zi_lt, zi_eq, zl_le, zl_lt, zl_eq, zl_toInt, zl_of32, zi_of64, zi_div, zl_div, zmodI, ↓reduceIte, zTle, zFle, zTlt, zFlt, zTeq, zFeq, if_true, if_false, and_self, and_true, true_and, and_false, false_and, or_self, or_true, true_or, or_false, false_or, not_true_eq_false, not_false_eq_true, zcastA, zcastL, znatC, zab, Int.reduceAdd, Int.reduceSub, Int.reduceMul, Int.reduceNeg, Int.reduceToNat, Nat.reduceAdd])
  obtain ⟨v', L⟩ := L zU
  have L0 : zE zc_X12_notesBall (zF zT0 d) 4 [.ref 92, .int (zi b), .int (zi 0), .int (zi 0), zU] [] (zm len (zrw (zrw μ 123 (R3 0)) 124 (R4 0)) ν) = zE zc_X12_notesBall (zF zT0 d) 4 [.ref 92, .int (zi b), .int (zi (sm 5 (fun k => ab (c k - mk k)))), .int (zi 5), v'] [] (zm len (zrw (zrw μ 123 (R3 5)) 124 (R4 5)) ν) := L
  rw [p1, q1, zrw_id, zrw_id] at L0
  have fe : sm 5 (fun k => ab (c k - mk k)) = fr mk c := by
    show 0 + ab (c 0 - mk 0) + ab (c 1 - mk 1) + ab (c 2 - mk 2) + ab (c 3 - mk 3) + ab (c 4 - mk 4) = fr mk c
    unfold fr
    omega
  have fb : 0 ≤ fr mk c ∧ fr mk c ≤ 45 := by
    have := sm_b (n := 5) (f := fun k => ab (c k - mk k)) (B := 9) (fun j hj => ab_b (by have := (hmk j hj).2; have := (hc j hj).2; omega))
    rw [← fe]
    omega
  rw [fe] at L0
  obtain ⟨μ5, hμ5⟩ : ∃ m, m = zrw (zrw μ 123 (R3 5)) 124 (R4 5) := ⟨_, rfl⟩
  have n1 : ∀ r, r ≠ 123 → r ≠ 124 → μ5 r = μ r := fun r h1 h2 => by rw [hμ5]; exact rd 5 r h1 h2
  have n2 : ∀ k, k < 5 → μ5 123 k = zi (if wys = 0 then c k else if lo k ≤ c k then lo k else c k) ∧ μ5 124 k = zi (if wys = 0 then c k else if c k ≤ hi k then hi k else c k) := fun k hk => by rw [hμ5, r123, r124]; exact ⟨p3 5 k hk, q3 5 k hk⟩
  rw [← hμ5] at L0
  have n3 : μ5 92 47 = zi wys := by rw [n1 92 (by decide) (by decide)]; exact hw
  have G : zF zT0 (d + 1) 229 [.ref 92, .int (zi b)] (zm len μ ν) = zE zc_X12_notesBall (zF zT0 d) 4 [.ref 92, .int (zi b), .int (zi (fr mk c)), .int (zi 5), v'] [] (zm len μ5 ν) := by
    rw [B_X12_notesBall, ← L0]
    rfl
  obtain ⟨f, hf⟩ : ∃ f, f = fr mk c := ⟨_, rfl⟩
  rw [← hf] at G fb
  rw [G, B_X12_notesBall_4]
  have yes : ∀ x : Int, zup (zup μ5 92 48 (zi x)) 92 47 (zi (wys + 1)) 92 48 = zi x := fun x => rfl
  by_cases z0 : wys = 0
  · refine ⟨zup (zup μ5 92 48 (zi f)) 92 47 (zi (wys + 1)), ?_, fun r h1 h2 h3 => ?_, fun j h1 h2 => ?_, rfl, ?_, fun k hk => n2 k hk⟩
    · have n4 : (zup μ5 92 48 (zi f)) 92 47 = zi wys := n3
      simp (disch := omega) only [n3, z0, B_X12_notesBall_133, B_X12_notesBall_138, n4, zbi_some, zbl_some, zbv_some, zbi_none, zbl_none, zbv_none, zbi_ite, zbl_ite, zbv_ite, zbZ, zbO, zc_lt, zc_le, zc_ge, zc_gt, zc_eq, zk0, zk1, zk2, zk3, zk4, zk5, zk6, zk7, zk8, zk9, zk10, zk11, zk12, zk14, zk15, zk16, zk17, zk19, zk20, zk21, zk24, zk25, zk30, zk32, zk36, zk40, zk45, zk50, zk64, zk97, zk99, zk100, zk102, zk122, zk128, zk255, zk800, zk801, zk900, zk999, zk1000, zk1997, zk9999, zk10000, zk100000, zk99999, zk9999999, zk999999999, zk2147483647, zlc0, zlc1, zlc2, zlc3, zlc4, zlc23, zlc99, zlc100, zlc9999999, zlc999999999999, zlc1073741824, zi_neg, zi_add, zi_sub, zi_mul, zl_neg, zl_add, zl_sub, zl_mul, zi_toInt, zi_nat, zi_le, zi_lt, zi_eq, zl_le, zl_lt, zl_eq, zl_toInt, zl_of32, zi_of64, zi_div, zl_div, zmodI, ↓reduceIte, zTle, zFle, zTlt, zFlt, zTeq, zFeq, if_true, if_false, and_self, and_true, true_and, and_false, false_and, or_self, or_true, true_or, or_false, false_or, not_true_eq_false, not_false_eq_true, zcastA, zcastL, znatC, zab, Int.reduceAdd, Int.reduceSub, Int.reduceMul, Int.reduceNeg, Int.reduceToNat, Nat.reduceAdd]
    · rw [zup_ne _ _ _ h1, zup_ne _ _ _ h1]
      exact n1 r h2 h3
    · rw [zup_self, upd_ne _ _ h1, zup_self, upd_ne _ _ h2, n1 92 (by decide) (by decide)]
    · rw [if_pos z0, ← hf]
      exact yes f
  · obtain ⟨⟨l1, l2, l3⟩, _⟩ := hl z0
    have n5 : μ5 92 48 = zi ls := by rw [n1 92 (by decide) (by decide)]; exact l1
    by_cases z1 : ls ≤ f
    · refine ⟨zup μ5 92 47 (zi (wys + 1)), ?_, fun r h1 h2 h3 => ?_, fun j h1 h2 => ?_, rfl, ?_, fun k hk => n2 k hk⟩
      · simp (disch := omega) only [n3, z0, n5, z1, B_X12_notesBall_138, zbi_some, zbl_some, zbv_some, zbi_none, zbl_none, zbv_none, zbi_ite, zbl_ite, zbv_ite, zbZ, zbO, zc_lt, zc_le, zc_ge, zc_gt, zc_eq, zk0, zk1, zk2, zk3, zk4, zk5, zk6, zk7, zk8, zk9, zk10, zk11, zk12, zk14, zk15, zk16, zk17, zk19, zk20, zk21, zk24, zk25, zk30, zk32, zk36, zk40, zk45, zk50, zk64, zk97, zk99, zk100, zk102, zk122, zk128, zk255, zk800, zk801, zk900, zk999, zk1000, zk1997, zk9999, zk10000, zk100000, zk99999, zk9999999, zk999999999, zk2147483647, zlc0, zlc1, zlc2, zlc3, zlc4, zlc23, zlc99, zlc100, zlc9999999, zlc999999999999, zlc1073741824, zi_neg, zi_add, zi_sub, zi_mul, zl_neg, zl_add, zl_sub, zl_mul, zi_toInt, zi_nat, zi_le, zi_lt, zi_eq, zl_le, zl_lt, zl_eq, zl_toInt, zl_of32, zi_of64, zi_div, zl_div, zmodI, ↓reduceIte, zTle, zFle, zTlt, zFlt, zTeq, zFeq, if_true, if_false, and_self, and_true, true_and, and_false, false_and, or_self, or_true, true_or, or_false, false_or, not_true_eq_false, not_false_eq_true, zcastA, zcastL, znatC, zab, Int.reduceAdd, Int.reduceSub, Int.reduceMul, Int.reduceNeg, Int.reduceToNat, Nat.reduceAdd]
      · rw [zup_ne _ _ _ h1]
        exact n1 r h2 h3
      · rw [zup_self, upd_ne _ _ h1, n1 92 (by decide) (by decide)]
      · rw [if_neg z0, ← hf, if_pos z1, zup_self, upd_ne _ _ (by decide)]
        exact n5
    · refine ⟨zup (zup μ5 92 48 (zi f)) 92 47 (zi (wys + 1)), ?_, fun r h1 h2 h3 => ?_, fun j h1 h2 => ?_, rfl, ?_, fun k hk => n2 k hk⟩
      · have n4 : (zup μ5 92 48 (zi f)) 92 47 = zi wys := n3
        simp (disch := omega) only [n3, z0, n5, z1, B_X12_notesBall_133, B_X12_notesBall_138, n4, zbi_some, zbl_some, zbv_some, zbi_none, zbl_none, zbv_none, zbi_ite, zbl_ite, zbv_ite, zbZ, zbO, zc_lt, zc_le, zc_ge, zc_gt, zc_eq, zk0, zk1, zk2, zk3, zk4, zk5, zk6, zk7, zk8, zk9, zk10, zk11, zk12, zk14, zk15, zk16, zk17, zk19, zk20, zk21, zk24, zk25, zk30, zk32, zk36, zk40, zk45, zk50, zk64, zk97, zk99, zk100, zk102, zk122, zk128, zk255, zk800, zk801, zk900, zk999, zk1000, zk1997, zk9999, zk10000, zk100000, zk99999, zk9999999, zk999999999, zk2147483647, zlc0, zlc1, zlc2, zlc3, zlc4, zlc23, zlc99, zlc100, zlc9999999, zlc999999999999, zlc1073741824, zi_neg, zi_add, zi_sub, zi_mul, zl_neg, zl_add, zl_sub, zl_mul, zi_toInt, zi_nat, zi_le, zi_lt, zi_eq, zl_le, zl_lt, zl_eq, zl_toInt, zl_of32, zi_of64, zi_div, zl_div, zmodI, ↓reduceIte, zTle, zFle, zTlt, zFlt, zTeq, zFeq, if_true, if_false, and_self, and_true, true_and, and_false, false_and, or_self, or_true, true_or, or_false, false_or, not_true_eq_false, not_false_eq_true, zcastA, zcastL, znatC, zab, Int.reduceAdd, Int.reduceSub, Int.reduceMul, Int.reduceNeg, Int.reduceToNat, Nat.reduceAdd]
      · rw [zup_ne _ _ _ h1, zup_ne _ _ _ h1]
        exact n1 r h2 h3
      · rw [zup_self, upd_ne _ _ h1, zup_self, upd_ne _ _ h2, n1 92 (by decide) (by decide)]
      · rw [if_neg z0, ← hf, if_neg z1]
        exact yes f

/-! TABLET: the model's copy of the lines -/
def MlinO (o : Nat) (Y : zMu) (ν : zNu) (ln : Nat → Ln) (i : Nat) : Prop := Y 100 (o + i) = zi (ln i).1 ∧ Y 101 (o + i) = zi (ln i).2.1 ∧ ν 102 (o + i) = zl (ln i).2.2.2.1 ∧ Y 103 (o + i) = zi (ln i).2.2.1 ∧ Y 104 (o + i) = zi ((ln i).2.2.2.2.length : Int) ∧ ∀ j p, (ln i).2.2.2.2[j]? = some p → ν 105 (3 * (o + i) + j) = zl p.1 ∧ Y 106 (3 * (o + i) + j) = zi p.2
theorem zupl_ss (ν : zNu) (r i : Nat) (v : Int64) : zupl ν r i v r i = v := by rw [zupl_at, if_pos ⟨rfl, rfl⟩]
theorem znar01 {x : Int} (h : 0 ≤ x ∧ x ≤ 1) : znar 3 (zi x) = zi x := by
  have : x = 0 ∨ x = 1 := by omega
  rcases this with z | z <;> rw [z] <;> rfl
def cpF (k : Nat) (Y Y' : zMu) (ν ν' : zNu) : Prop := (∀ r, r ≠ 98 → r ≠ 99 → r ≠ 100 → r ≠ 101 → r ≠ 103 → r ≠ 104 → r ≠ 106 → Y' r = Y r) ∧ (∀ i, i < 24 * k ∨ 24 * k + 24 ≤ i → Y' 100 i = Y 100 i ∧ Y' 101 i = Y 101 i) ∧ (∀ i, i ≠ k → Y' 98 i = Y 98 i ∧ Y' 99 i = Y 99 i) ∧ ∀ r, r ≠ 102 → r ≠ 105 → ν' r = ν r
theorem cpF_tr {k : Nat} {Y Y' Y'' : zMu} {ν ν' ν'' : zNu} (h : cpF k Y Y' ν ν') (h2 : cpF k Y' Y'' ν' ν'') : cpF k Y Y'' ν ν'' := ⟨fun r a b c d e f g => by rw [h2.1 r a b c d e f g, h.1 r a b c d e f g], fun i hi => by rw [(h2.2.1 i hi).1, (h2.2.1 i hi).2]; exact h.2.1 i hi, fun i hi => by rw [(h2.2.2.1 i hi).1, (h2.2.2.1 i hi).2]; exact h.2.2.1 i hi, fun r a b => by rw [h2.2.2.2 r a b, h.2.2.2 r a b]⟩
theorem cpF_rf (k : Nat) (Y : zMu) (ν : zNu) : cpF k Y Y ν ν := ⟨fun _ _ _ _ _ _ _ _ => rfl, fun _ _ => ⟨rfl, rfl⟩, fun _ _ => ⟨rfl, rfl⟩, fun _ _ _ => rfl⟩
section CP
variable {ln : Nat → Ln} {n k : Nat}
theorem cp_step (call : zC) (len : Nat) {Y : zMu} {ν : zNu} (hn : n ≤ 24) (hk : k < 12) (hV : LV ln n) {m : Nat} (hm : m < n) (h1 : ∀ i, i < n → MlinO 288 Y ν ln i) (h2 : ∀ i, i < m → MlinO (24 * k) Y ν ln i) (x2 : Int32) (v5 v6 v7 : Value) : ∃ (Y' : zMu) (ν' : zNu) (w5 w6 w7 : Value), zE zc_X12_tablet call 77 [.ref 92, .int (zi (k : Int)), .int x2, .int (zi (n : Int)), .int (zi (m : Int)), v5, v6, v7] [] (zm len Y ν) = zE zc_X12_tablet call 77 [.ref 92, .int (zi (k : Int)), .int x2, .int (zi (n : Int)), .int (zi ((m + 1 : Nat) : Int)), w5, w6, w7] [] (zm len Y' ν') ∧ (∀ i, i < n → MlinO 288 Y' ν' ln i) ∧ (∀ i, i < m + 1 → MlinO (24 * k) Y' ν' ln i) ∧ cpF k Y Y' ν ν' := by
  obtain ⟨a1, a2, a3, a4, a5, a6⟩ := h1 m hm
  have v := hV.1 m hm
  have z1 := znar01 v.2.2.1
  have z288 : (288 : Int32) = zi 288 := rfl
  have ia : (24 * (k : Int) + (m : Int)).toNat = 24 * k + m := by omega
  have is : (288 + (m : Int)).toNat = 288 + m := by omega
  have ia0 : (3 * (24 * (k : Int) + (m : Int)) + 0).toNat = 3 * (24 * k + m) := by omega
  have ia1 : (3 * (24 * (k : Int) + (m : Int)) + 1).toNat = 3 * (24 * k + m) + 1 := by omega
  have ia2 : (3 * (24 * (k : Int) + (m : Int)) + 2).toNat = 3 * (24 * k + m) + 2 := by omega
  have is0 : (3 * (288 + (m : Int)) + 0).toNat = 3 * (288 + m) := by omega
  have is1 : (3 * (288 + (m : Int)) + 1).toNat = 3 * (288 + m) + 1 := by omega
  have is2 : (3 * (288 + (m : Int)) + 2).toNat = 3 * (288 + m) + 2 := by omega
  obtain ⟨Y1, hY1⟩ : ∃ Y1, Y1 = zup (zup (zup (zup Y 100 (24 * k + m) (zi (ln m).1)) 101 (24 * k + m) (zi (ln m).2.1)) 103 (24 * k + m) (zi (ln m).2.2.1)) 104 (24 * k + m) (zi ((ln m).2.2.2.2.length : Int)) := ⟨_, rfl⟩
  obtain ⟨ν1, hν1⟩ : ∃ ν1, ν1 = zupl ν 102 (24 * k + m) (zl (ln m).2.2.2.1) := ⟨_, rfl⟩
  have e106 : Y1 106 = Y 106 := by rw [hY1]; funext j; simp (disch := omega) only [zup_at, upd_eq, upd_ne, ne_eq, Nat.reduceEqDiff, ↓reduceIte, if_true, if_false]
  have e105 : ν1 105 = ν 105 := by rw [hν1]; exact zupl_nx (by decide)
  obtain ⟨Y', hY'⟩ : ∃ Y', Y' = zup (zup (zup Y1 106 (3 * (24 * k + m)) (Y 106 (3 * (288 + m)))) 106 (3 * (24 * k + m) + 1) (Y 106 (3 * (288 + m) + 1))) 106 (3 * (24 * k + m) + 2) (Y 106 (3 * (288 + m) + 2)) := ⟨_, rfl⟩
  obtain ⟨ν', hν'⟩ : ∃ ν', ν' = zupl (zupl (zupl ν1 105 (3 * (24 * k + m)) (ν 105 (3 * (288 + m)))) 105 (3 * (24 * k + m) + 1) (ν 105 (3 * (288 + m) + 1))) 105 (3 * (24 * k + m) + 2) (ν 105 (3 * (288 + m) + 2)) := ⟨_, rfl⟩
  have o106 : ∀ j, j ≠ 3 * (24 * k + m) → j ≠ 3 * (24 * k + m) + 1 → j ≠ 3 * (24 * k + m) + 2 → Y' 106 j = Y 106 j := fun j c0 c1 c2 => by rw [hY']; simp (disch := omega) only [e106, zup_at, upd_eq, upd_ne, ne_eq, Nat.reduceEqDiff, ↓reduceIte, if_true, if_false]
  have o105 : ∀ j, j ≠ 3 * (24 * k + m) → j ≠ 3 * (24 * k + m) + 1 → j ≠ 3 * (24 * k + m) + 2 → ν' 105 j = ν 105 j := fun j c0 c1 c2 => by rw [hν', zupl_j c2, zupl_j c1, zupl_j c0, e105]
  have s106 : ∀ j, j < 3 → Y' 106 (3 * (24 * k + m) + j) = Y 106 (3 * (288 + m) + j) ∧ ν' 105 (3 * (24 * k + m) + j) = ν 105 (3 * (288 + m) + j) := fun j hj => by
    have : j = 0 ∨ j = 1 ∨ j = 2 := by omega
    rcases this with z | z | z <;> subst z
    · rw [Nat.add_zero, Nat.add_zero]
      refine ⟨?_, ?_⟩
      · rw [hY']; simp (disch := omega) only [zup_at, upd_eq, upd_ne, ne_eq, Nat.reduceEqDiff, ↓reduceIte, if_true, if_false]
      · rw [hν', zupl_j (by omega), zupl_j (by omega), zupl_ss]
    · refine ⟨?_, ?_⟩
      · rw [hY']; simp (disch := omega) only [zup_at, upd_eq, upd_ne, ne_eq, Nat.reduceEqDiff, ↓reduceIte, if_true, if_false]
      · rw [hν', zupl_j (by omega), zupl_ss]
    · refine ⟨?_, ?_⟩
      · rw [hY']; simp (disch := omega) only [zup_at, upd_eq, upd_ne, ne_eq, Nat.reduceEqDiff, ↓reduceIte, if_true, if_false]
      · rw [hν', zupl_ss]
  have n102 : ν' 102 = ν1 102 := by rw [hν', zupl_nx (by decide), zupl_nx (by decide), zupl_nx (by decide)]
  have r4 : ∀ r, r ≠ 106 → Y' r = Y1 r := fun r hr => by rw [hY', zup_ne _ _ _ hr, zup_ne _ _ _ hr, zup_ne _ _ _ hr]
  have oth : ∀ r, (r = 100 ∨ r = 101 ∨ r = 103 ∨ r = 104) → ∀ j, j ≠ 24 * k + m → Y' r j = Y r j := fun r hr j hj => by
    rcases hr with z | z | z | z <;> subst z <;> rw [r4 _ (by decide), hY1] <;> simp (disch := omega) only [zup_at, upd_eq, upd_ne, ne_eq, Nat.reduceEqDiff, ↓reduceIte, if_true, if_false]
  have o102 : ∀ j, j ≠ 24 * k + m → ν' 102 j = ν 102 j := fun j hj => by rw [n102, hν1, zupl_j hj]
  have keep : ∀ o i, MlinO o Y ν ln i → (ln i).2.2.2.2.length ≤ 2 → o + i ≠ 24 * k + m → MlinO o Y' ν' ln i := fun o i hM hl hne => by
    obtain ⟨b1, b2, b3, b4, b5, b6⟩ := hM
    refine ⟨?_, ?_, ?_, ?_, ?_, fun j p hj => ?_⟩
    · rw [oth 100 (by omega) _ hne]; exact b1
    · rw [oth 101 (by omega) _ hne]; exact b2
    · rw [o102 _ hne]; exact b3
    · rw [oth 103 (by omega) _ hne]; exact b4
    · rw [oth 104 (by omega) _ hne]; exact b5
    · have hj3 : j < 3 := by
        rcases Nat.lt_or_ge j (ln i).2.2.2.2.length with w | w
        · omega
        · rw [List.getElem?_eq_none w] at hj
          cases hj
      rw [o105 _ (by omega) (by omega) (by omega), o106 _ (by omega) (by omega) (by omega)]
      exact b6 j p hj
  refine ⟨Y', ν', .int (zi (24 * (k : Int) + (m : Int))), .int (zi (288 + (m : Int))), .int (zi 3), ?_, fun i hi => ?_, fun i hi => ?_, fun r c0 c1 c2 c3 c4 c5 c6 => ?_, fun i hi => ⟨?_, ?_⟩, fun i hi => ⟨?_, ?_⟩, fun r c0 c1 => ?_⟩
  · have T : ∀ x1 : Int32, zE zc_X12_tablet call 77 [.ref 92, .int (zi (k : Int)), .int x2, .int (zi (n : Int)), .int (zi (m : Int)), v5, v6, v7] [] (zm len Y ν) = zE zc_X12_tablet call 173 [.ref 92, .int (zi (k : Int)), .int x2, .int (zi (n : Int)), .int (zi (m : Int)), .int (zi (24 * (k : Int) + (m : Int))), .int (zi (288 + (m : Int))), .int (zi 0)] [] (zm len Y1 ν1) := fun _ => by
      rw [hY1, hν1, B_X12_tablet_77]
      simp (disch := omega) only [z288, ia, is, a1, a2, a3, a4, a5, zup_ne, z1, B_X12_tablet_170, zbi_some, zbl_some, zbv_some, zbi_none, zbl_none, zbv_none, zbi_ite, zbl_ite, zbv_ite, zbZ, zbO, zc_lt, zc_le, zc_ge, zc_gt, zc_eq, zk0, zk1, zk2, zk3, zk4, zk5, zk6, zk7, zk8, zk9, zk10, zk11, zk12, zk14, zk15, zk16, zk17, zk19, zk20, zk21, zk24, zk25, zk30, zk32, zk36, zk40, zk45, zk50, zk64, zk97, zk99, zk100, zk102, zk122, zk128, zk255, zk800, zk801, zk900, zk999, zk1000, zk1997, zk9999, zk10000, zk100000, zk99999, zk9999999, zk999999999, zk2147483647, zlc0, zlc1, zlc2, zlc3, zlc4, zlc23, zlc99, zlc100, zlc9999999, zlc999999999999, zlc1073741824, zi_neg, zi_add, zi_sub, zi_mul, zl_neg, zl_add, zl_sub, zl_mul, zi_toInt, zi_nat, zi_le, zi_lt, zi_eq, zl_le, zl_lt, zl_eq, zl_toInt, zl_of32, zi_of64, zi_div, zl_div, zmodI, ↓reduceIte, zTle, zFle, zTlt, zFlt, zTeq, zFeq, if_true, if_false, and_self, and_true, true_and, and_false, false_and, or_self, or_true, true_or, or_false, false_or, not_true_eq_false, not_false_eq_true, zcastA, zcastL, znatC, zab, Int.reduceAdd, Int.reduceSub, Int.reduceMul, Int.reduceNeg, Int.reduceToNat, Nat.reduceAdd]
    refine (T 0).trans ?_
    rw [hY', hν', ← e106, ← e105, B_X12_tablet_173]
    simp (disch := omega) only [ia0, is0, zbi_some, zbl_some, zbv_some, zbi_none, zbl_none, zbv_none, zbi_ite, zbl_ite, zbv_ite, zbZ, zbO, zc_lt, zc_le, zc_ge, zc_gt, zc_eq, zk0, zk1, zk2, zk3, zk4, zk5, zk6, zk7, zk8, zk9, zk10, zk11, zk12, zk14, zk15, zk16, zk17, zk19, zk20, zk21, zk24, zk25, zk30, zk32, zk36, zk40, zk45, zk50, zk64, zk97, zk99, zk100, zk102, zk122, zk128, zk255, zk800, zk801, zk900, zk999, zk1000, zk1997, zk9999, zk10000, zk100000, zk99999, zk9999999, zk999999999, zk2147483647, zlc0, zlc1, zlc2, zlc3, zlc4, zlc23, zlc99, zlc100, zlc9999999, zlc999999999999, zlc1073741824, zi_neg, zi_add, zi_sub, zi_mul, zl_neg, zl_add, zl_sub, zl_mul, zi_toInt, zi_nat, zi_le, zi_lt, zi_eq, zl_le, zl_lt, zl_eq, zl_toInt, zl_of32, zi_of64, zi_div, zl_div, zmodI, ↓reduceIte, zTle, zFle, zTlt, zFlt, zTeq, zFeq, if_true, if_false, and_self, and_true, true_and, and_false, false_and, or_self, or_true, true_or, or_false, false_or, not_true_eq_false, not_false_eq_true, zcastA, zcastL, znatC, zab, Int.reduceAdd, Int.reduceSub, Int.reduceMul, Int.reduceNeg, Int.reduceToNat, Nat.reduceAdd]
    rw [B_X12_tablet_173]
    simp (disch := omega) only [ia1, is1, zup_self, zupl_j, upd_ne, zbi_some, zbl_some, zbv_some, zbi_none, zbl_none, zbv_none, zbi_ite, zbl_ite, zbv_ite, zbZ, zbO, zc_lt, zc_le, zc_ge, zc_gt, zc_eq, zk0, zk1, zk2, zk3, zk4, zk5, zk6, zk7, zk8, zk9, zk10, zk11, zk12, zk14, zk15, zk16, zk17, zk19, zk20, zk21, zk24, zk25, zk30, zk32, zk36, zk40, zk45, zk50, zk64, zk97, zk99, zk100, zk102, zk122, zk128, zk255, zk800, zk801, zk900, zk999, zk1000, zk1997, zk9999, zk10000, zk100000, zk99999, zk9999999, zk999999999, zk2147483647, zlc0, zlc1, zlc2, zlc3, zlc4, zlc23, zlc99, zlc100, zlc9999999, zlc999999999999, zlc1073741824, zi_neg, zi_add, zi_sub, zi_mul, zl_neg, zl_add, zl_sub, zl_mul, zi_toInt, zi_nat, zi_le, zi_lt, zi_eq, zl_le, zl_lt, zl_eq, zl_toInt, zl_of32, zi_of64, zi_div, zl_div, zmodI, ↓reduceIte, zTle, zFle, zTlt, zFlt, zTeq, zFeq, if_true, if_false, and_self, and_true, true_and, and_false, false_and, or_self, or_true, true_or, or_false, false_or, not_true_eq_false, not_false_eq_true, zcastA, zcastL, znatC, zab, Int.reduceAdd, Int.reduceSub, Int.reduceMul, Int.reduceNeg, Int.reduceToNat, Nat.reduceAdd]
    rw [B_X12_tablet_173]
    simp (disch := omega) only [ia2, is2, zup_self, zupl_j, upd_ne, zbi_some, zbl_some, zbv_some, zbi_none, zbl_none, zbv_none, zbi_ite, zbl_ite, zbv_ite, zbZ, zbO, zc_lt, zc_le, zc_ge, zc_gt, zc_eq, zk0, zk1, zk2, zk3, zk4, zk5, zk6, zk7, zk8, zk9, zk10, zk11, zk12, zk14, zk15, zk16, zk17, zk19, zk20, zk21, zk24, zk25, zk30, zk32, zk36, zk40, zk45, zk50, zk64, zk97, zk99, zk100, zk102, zk122, zk128, zk255, zk800, zk801, zk900, zk999, zk1000, zk1997, zk9999, zk10000, zk100000, zk99999, zk9999999, zk999999999, zk2147483647, zlc0, zlc1, zlc2, zlc3, zlc4, zlc23, zlc99, zlc100, zlc9999999, zlc999999999999, zlc1073741824, zi_neg, zi_add, zi_sub, zi_mul, zl_neg, zl_add, zl_sub, zl_mul, zi_toInt, zi_nat, zi_le, zi_lt, zi_eq, zl_le, zl_lt, zl_eq, zl_toInt, zl_of32, zi_of64, zi_div, zl_div, zmodI, ↓reduceIte, zTle, zFle, zTlt, zFlt, zTeq, zFeq, if_true, if_false, and_self, and_true, true_and, and_false, false_and, or_self, or_true, true_or, or_false, false_or, not_true_eq_false, not_false_eq_true, zcastA, zcastL, znatC, zab, Int.reduceAdd, Int.reduceSub, Int.reduceMul, Int.reduceNeg, Int.reduceToNat, Nat.reduceAdd]
    rw [B_X12_tablet_173]
    simp (disch := omega) only [zbi_some, zbl_some, zbv_some, zbi_none, zbl_none, zbv_none, zbi_ite, zbl_ite, zbv_ite, zbZ, zbO, zc_lt, zc_le, zc_ge, zc_gt, zc_eq, zk0, zk1, zk2, zk3, zk4, zk5, zk6, zk7, zk8, zk9, zk10, zk11, zk12, zk14, zk15, zk16, zk17, zk19, zk20, zk21, zk24, zk25, zk30, zk32, zk36, zk40, zk45, zk50, zk64, zk97, zk99, zk100, zk102, zk122, zk128, zk255, zk800, zk801, zk900, zk999, zk1000, zk1997, zk9999, zk10000, zk100000, zk99999, zk9999999, zk999999999, zk2147483647, zlc0, zlc1, zlc2, zlc3, zlc4, zlc23, zlc99, zlc100, zlc9999999, zlc999999999999, zlc1073741824, zi_neg, zi_add, zi_sub, zi_mul, zl_neg, zl_add, zl_sub, zl_mul, zi_toInt, zi_nat, zi_le, zi_lt, zi_eq, zl_le, zl_lt, zl_eq, zl_toInt, zl_of32, zi_of64, zi_div, zl_div, zmodI, ↓reduceIte, zTle, zFle, zTlt, zFlt, zTeq, zFeq, if_true, if_false, and_self, and_true, true_and, and_false, false_and, or_self, or_true, true_or, or_false, false_or, not_true_eq_false, not_false_eq_true, zcastA, zcastL, znatC, zab, Int.reduceAdd, Int.reduceSub, Int.reduceMul, Int.reduceNeg, Int.reduceToNat, Nat.reduceAdd]
  · exact keep 288 i (h1 i hi) (hV.1 i hi).2.2.2.2.2.1 (by omega)
  · by_cases z : i = m
    · subst z
      refine ⟨?_, ?_, ?_, ?_, ?_, fun j p hj => ?_⟩
      · rw [r4 _ (by decide), hY1]; simp (disch := omega) only [zup_at, upd_eq, upd_ne, ne_eq, Nat.reduceEqDiff, ↓reduceIte, if_true, if_false]
      · rw [r4 _ (by decide), hY1]; simp (disch := omega) only [zup_at, upd_eq, upd_ne, ne_eq, Nat.reduceEqDiff, ↓reduceIte, if_true, if_false]
      · rw [n102, hν1, zupl_ss]
      · rw [r4 _ (by decide), hY1]; simp (disch := omega) only [zup_at, upd_eq, upd_ne, ne_eq, Nat.reduceEqDiff, ↓reduceIte, if_true, if_false]
      · rw [r4 _ (by decide), hY1]; simp (disch := omega) only [zup_at, upd_eq, upd_ne, ne_eq, Nat.reduceEqDiff, ↓reduceIte, if_true, if_false]
      · have hj3 : j < 3 := by
          have := v.2.2.2.2.2.1
          rcases Nat.lt_or_ge j (ln i).2.2.2.2.length with w | w
          · omega
          · rw [List.getElem?_eq_none w] at hj
            cases hj
        rw [(s106 j hj3).1, (s106 j hj3).2]
        exact a6 j p hj
    · exact keep (24 * k) i (h2 i (by omega)) (hV.1 i (by omega)).2.2.2.2.2.1 (by omega)
  · rw [r4 _ c6, hY1, zup_ne _ _ _ c5, zup_ne _ _ _ c4, zup_ne _ _ _ c3, zup_ne _ _ _ c2]
  · exact oth 100 (by omega) i (by omega)
  · exact oth 101 (by omega) i (by omega)
  · rw [r4 _ (by decide), hY1]; simp (disch := omega) only [zup_at, upd_eq, upd_ne, ne_eq, Nat.reduceEqDiff, ↓reduceIte, if_true, if_false]
  · rw [r4 _ (by decide), hY1]; simp (disch := omega) only [zup_at, upd_eq, upd_ne, ne_eq, Nat.reduceEqDiff, ↓reduceIte, if_true, if_false]
  · rw [hν', zupl_nx c1, zupl_nx c1, zupl_nx c1, hν1, zupl_nx c0]
theorem cp_all (call : zC) (len : Nat) (hn : n ≤ 24) (hk : k < 12) (hV : LV ln n) (x2 y : Int32) : ∀ q m : Nat, m + q = n → ∀ (Y : zMu) (ν : zNu) (v5 v6 v7 : Value), Y 92 1 = y → (∀ i, i < n → MlinO 288 Y ν ln i) → (∀ i, i < m → MlinO (24 * k) Y ν ln i) → ∃ (Y' : zMu) (ν' : zNu) (w5 w6 w7 : Value), zE zc_X12_tablet call 77 [.ref 92, .int (zi (k : Int)), .int x2, .int (zi (n : Int)), .int (zi (m : Int)), v5, v6, v7] [] (zm len Y ν) = zE zc_X12_tablet call 256 [.ref 92, .int (zi (k : Int)), .int x2, .int (zi (n : Int)), .int (zi (n : Int)), w5, w6, w7] [] (zm len Y' ν') ∧ (∀ i, i < n → MlinO (24 * k) Y' ν' ln i) ∧ Y' 98 k = zi (n : Int) ∧ Y' 99 k = y ∧ cpF k Y Y' ν ν' := by
  intro q
  induction q with
  | zero =>
    intro m hm Y ν v5 v6 v7 hy h1 h2
    have : m = n := by omega
    subst this
    obtain ⟨Y', hY'⟩ : ∃ Y', Y' = zup (zup Y 98 k (zi (m : Int))) 99 k y := ⟨_, rfl⟩
    have rr : ∀ r, r ≠ 98 → r ≠ 99 → Y' r = Y r := fun r a b => by rw [hY', zup_ne _ _ _ b, zup_ne _ _ _ a]
    refine ⟨Y', ν, v5, v6, v7, ?_, fun i hi => ?_, ?_, ?_, fun r c0 c1 _ _ _ _ _ => rr r c0 c1, fun i hi => ⟨?_, ?_⟩, fun i hi => ⟨?_, ?_⟩, fun _ _ _ => rfl⟩
    · rw [B_X12_tablet_77, hY']
      simp (disch := omega) only [zup_ne, hy, zbi_some, zbl_some, zbv_some, zbi_none, zbl_none, zbv_none, zbi_ite, zbl_ite, zbv_ite, zbZ, zbO, zc_lt, zc_le, zc_ge, zc_gt, zc_eq, zk0, zk1, zk2, zk3, zk4, zk5, zk6, zk7, zk8, zk9, zk10, zk11, zk12, zk14, zk15, zk16, zk17, zk19, zk20, zk21, zk24, zk25, zk30, zk32, zk36, zk40, zk45, zk50, zk64, zk97, zk99, zk100, zk102, zk122, zk128, zk255, zk800, zk801, zk900, zk999, zk1000, zk1997, zk9999, zk10000, zk100000, zk99999, zk9999999, zk999999999, zk2147483647, zlc0, zlc1, zlc2, zlc3, zlc4, zlc23, zlc99, zlc100, zlc9999999, zlc999999999999, zlc1073741824, zi_neg, zi_add, zi_sub, zi_mul, zl_neg, zl_add, zl_sub, zl_mul, zi_toInt, zi_nat, zi_le, zi_lt, zi_eq, zl_le, zl_lt, zl_eq, zl_toInt, zl_of32, zi_of64, zi_div, zl_div, zmodI, ↓reduceIte, zTle, zFle, zTlt, zFlt, zTeq, zFeq, if_true, if_false, and_self, and_true, true_and, and_false, false_and, or_self, or_true, true_or, or_false, false_or, not_true_eq_false, not_false_eq_true, zcastA, zcastL, znatC, zab, Int.reduceAdd, Int.reduceSub, Int.reduceMul, Int.reduceNeg, Int.reduceToNat, Nat.reduceAdd]
    · unfold MlinO
      rw [rr 100 (by decide) (by decide), rr 101 (by decide) (by decide), rr 103 (by decide) (by decide), rr 104 (by decide) (by decide), rr 106 (by decide) (by decide)]
      exact h2 i hi
    · rw [hY']; simp (disch := omega) only [zup_at, upd_eq, upd_ne, ne_eq, Nat.reduceEqDiff, ↓reduceIte, if_true, if_false]
    · rw [hY']; simp (disch := omega) only [zup_at, upd_eq, upd_ne, ne_eq, Nat.reduceEqDiff, ↓reduceIte, if_true, if_false]
    · rw [rr 100 (by decide) (by decide)]
    · rw [rr 101 (by decide) (by decide)]
    · rw [hY']; simp (disch := omega) only [zup_at, upd_eq, upd_ne, ne_eq, Nat.reduceEqDiff, ↓reduceIte, if_true, if_false]
    · rw [hY']; simp (disch := omega) only [zup_at, upd_eq, upd_ne, ne_eq, Nat.reduceEqDiff, ↓reduceIte, if_true, if_false]
  | succ q ih =>
    intro m hm Y ν v5 v6 v7 hy h1 h2
    obtain ⟨Y1, ν1, u5, u6, u7, A, A1, A2, A3⟩ := cp_step call len hn hk hV (show m < n by omega) h1 h2 x2 v5 v6 v7
    obtain ⟨Y2, ν2, w5, w6, w7, B, B1, B2, B3, B4⟩ := ih (m + 1) (by omega) Y1 ν1 u5 u6 u7 (by rw [A3.1 92 (by decide) (by decide) (by decide) (by decide) (by decide) (by decide) (by decide)]; exact hy) A1 A2
    exact ⟨Y2, ν2, w5, w6, w7, A.trans B, B1, B2, B3, cpF_tr A3 B4⟩
end CP

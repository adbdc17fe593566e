/-! RINGS: the class finds the first -/
theorem fr_s (d len n : Nat) (ν : zNu) (U : Nat → Nat) (μ : zMu) (L : Nat) (hR : Rs n U (μ 46)) (hc : μ 45 0 = zi (n : Int)) (hL : 2 ≤ L ∧ L ≤ n) : ∀ (m s : Nat) (μ1 : zMu), s + m ≤ n → (∀ t, s ≤ t → t < s + m → ¬ clo U n L t) → (∀ r, r ≠ 50 → μ1 r = μ r) → ∃ μ' : zMu, zE zc_X8_findRing (zF zT0 (d + 2)) 12 [.ref 45, .int (zi (L : Int)), .int (zi (s : Int))] [] (zm len μ1 ν) = zE zc_X8_findRing (zF zT0 (d + 2)) 12 [.ref 45, .int (zi (L : Int)), .int (zi ((s + m : Nat) : Int))] [] (zm len μ' ν) ∧ ∀ r, r ≠ 50 → μ' r = μ r := by
  have n10 := hR.1
  intro m
  induction m with
  | zero => exact fun s μ1 _ _ e => ⟨μ1, rfl, e⟩
  | succ m ih =>
    intro s μ1 hs no e
    have e46 : μ1 46 = μ 46 := e 46 (by decide)
    have e45 : μ1 45 0 = zi (n : Int) := by rw [e 45 (by decide)]; exact hc
    obtain ⟨μ2, a, b, c⟩ := F_back (d + 1) len n ν U μ1 s L (by rw [e46]; exact hR) e45 (by omega) (by omega)
    have nb : (lb U n s L).testBit s = false := by
      cases z : (lb U n s L).testBit s with
      | false => rfl
      | true => exact absurd z (no s (Nat.le_refl _) (by omega))
    have hl := c L (Nat.le_refl _)
    obtain ⟨μ', z1, z2⟩ := ih (s + 1) μ2 (by omega) (fun t h1 h2 => no t (by omega) (by omega)) (fun r h => by rw [b r h]; exact e r h)
    refine ⟨μ', ?_, z2⟩
    rw [show s + (m + 1) = s + 1 + m by omega, ← z1, B_X8_findRing_12]
    simp (disch := omega) only [e45, a, B_X8_findRing_26, hl, zb_bit, nb, Bool.false_eq_true, zbi_some, zbl_some, zbv_some, zbi_none, zbl_none, zbv_none, zbi_ite, zbl_ite, zbv_ite, zbZ, zbO, zc_lt, zc_le, zc_ge, zc_gt, zc_eq, zk0, zk1, zk2, zk3, zk4, zk5, zk6, zk7, zk8, zk9, zk10, zk11, zk12, zk14, zk15, zk16, zk17, zk19, zk20, zk21, zk24, zk25, zk30, zk32, zk36, zk40, zk45, zk50, zk64, zk97, zk99, zk100, zk102, zk122, zk128, zk255, zk800, zk801, zk900, zk999, zk1000, zk1997, zk9999, zk10000, zk100000, zk99999, zk9999999, zk999999999, zk2147483647, zlc0, zlc1, zlc2, zlc3, zlc4, zlc23, zlc99, zlc100, zlc9999999, zlc999999999999, zlc1073741824, zi_neg, zi_add, zi_sub, zi_mul, zl_neg, zl_add, zl_sub, zl_mul, zi_toInt, zi_nat, zi_le, zi_lt, zi_eq, zl_le, zl_lt, zl_eq, zl_toInt, zl_of32, zi_of64, zi_div, zl_div, zmodI, ↓reduceIte, zTle, zFle, zTlt, zFlt, zTeq, zFeq, if_true, if_false, and_self, and_true, true_and, and_false, false_and, or_self, or_true, true_or, or_false, false_or, not_true_eq_false, not_false_eq_true, zcastA, zcastL, znatC, zab, Int.reduceAdd, Int.reduceSub, Int.reduceMul, Int.reduceNeg, Int.reduceToNat, Nat.reduceAdd]
theorem fr_L (d len n : Nat) (ν : zNu) (U : Nat → Nat) (μ : zMu) (hR : Rs n U (μ 46)) (hc : μ 45 0 = zi (n : Int)) : ∀ (m L : Nat) (μ1 : zMu) (v : Value), 2 ≤ L → L + m ≤ n → (∀ K t, L ≤ K → K < L + m → t < n → ¬ clo U n K t) → (∀ r, r ≠ 50 → μ1 r = μ r) → ∃ (μ' : zMu) (v' : Value), zE zc_X8_findRing (zF zT0 (d + 2)) 2 [.ref 45, .int (zi (L : Int)), v] [] (zm len μ1 ν) = zE zc_X8_findRing (zF zT0 (d + 2)) 2 [.ref 45, .int (zi ((L + m : Nat) : Int)), v'] [] (zm len μ' ν) ∧ ∀ r, r ≠ 50 → μ' r = μ r := by
  have n10 := hR.1
  intro m
  induction m with
  | zero => exact fun L μ1 v _ _ _ e => ⟨μ1, v, rfl, e⟩
  | succ m ih =>
    intro L μ1 v h2 hs no e
    have e46 : μ1 46 = μ 46 := e 46 (by decide)
    have e45 : μ1 45 0 = zi (n : Int) := by rw [e 45 (by decide)]; exact hc
    obtain ⟨μ2, a, b⟩ := fr_s d len n ν U μ1 L (by rw [e46]; exact hR) e45 ⟨h2, by omega⟩ n 0 μ1 (by omega) (fun t _ h => no L t (Nat.le_refl _) (by omega) (by omega)) (fun r _ => rfl)
    rw [Nat.zero_add] at a
    have a' : zE zc_X8_findRing (zF zT0 (d + 2)) 12 [.ref 45, .int (zi (L : Int)), .int (zi 0)] [] (zm len μ1 ν) = zE zc_X8_findRing (zF zT0 (d + 2)) 12 [.ref 45, .int (zi (L : Int)), .int (zi (n : Int))] [] (zm len μ2 ν) := a
    have c45 : μ2 45 0 = zi (n : Int) := by rw [b 45 (by decide)]; exact e45
    have fin : zE zc_X8_findRing (zF zT0 (d + 2)) 12 [.ref 45, .int (zi (L : Int)), .int (zi (n : Int))] [] (zm len μ2 ν) = zE zc_X8_findRing (zF zT0 (d + 2)) 2 [.ref 45, .int (zi ((L + 1 : Nat) : Int)), .int (zi (n : Int))] [] (zm len μ2 ν) := by
      rw [B_X8_findRing_12]
      simp (disch := omega) only [c45, zbi_some, zbl_some, zbv_some, zbi_none, zbl_none, zbv_none, zbi_ite, zbl_ite, zbv_ite, zbZ, zbO, zc_lt, zc_le, zc_ge, zc_gt, zc_eq, zk0, zk1, zk2, zk3, zk4, zk5, zk6, zk7, zk8, zk9, zk10, zk11, zk12, zk14, zk15, zk16, zk17, zk19, zk20, zk21, zk24, zk25, zk30, zk32, zk36, zk40, zk45, zk50, zk64, zk97, zk99, zk100, zk102, zk122, zk128, zk255, zk800, zk801, zk900, zk999, zk1000, zk1997, zk9999, zk10000, zk100000, zk99999, zk9999999, zk999999999, zk2147483647, zlc0, zlc1, zlc2, zlc3, zlc4, zlc23, zlc99, zlc100, zlc9999999, zlc999999999999, zlc1073741824, zi_neg, zi_add, zi_sub, zi_mul, zl_neg, zl_add, zl_sub, zl_mul, zi_toInt, zi_nat, zi_le, zi_lt, zi_eq, zl_le, zl_lt, zl_eq, zl_toInt, zl_of32, zi_of64, zi_div, zl_div, zmodI, ↓reduceIte, zTle, zFle, zTlt, zFlt, zTeq, zFeq, if_true, if_false, and_self, and_true, true_and, and_false, false_and, or_self, or_true, true_or, or_false, false_or, not_true_eq_false, not_false_eq_true, zcastA, zcastL, znatC, zab, Int.reduceAdd, Int.reduceSub, Int.reduceMul, Int.reduceNeg, Int.reduceToNat, Nat.reduceAdd]
    obtain ⟨μ', v', z1, z2⟩ := ih (L + 1) μ2 (.int (zi (n : Int))) (by omega) (by omega) (fun K t k1 k2 k3 => no K t (by omega) (by omega) k3) (fun r h => by rw [b r h]; exact e r h)
    refine ⟨μ', v', ?_, z2⟩
    rw [show L + (m + 1) = L + 1 + m by omega, ← z1, ← fin, ← a', B_X8_findRing_2]
    simp (disch := omega) only [e45, zbi_some, zbl_some, zbv_some, zbi_none, zbl_none, zbv_none, zbi_ite, zbl_ite, zbv_ite, zbZ, zbO, zc_lt, zc_le, zc_ge, zc_gt, zc_eq, zk0, zk1, zk2, zk3, zk4, zk5, zk6, zk7, zk8, zk9, zk10, zk11, zk12, zk14, zk15, zk16, zk17, zk19, zk20, zk21, zk24, zk25, zk30, zk32, zk36, zk40, zk45, zk50, zk64, zk97, zk99, zk100, zk102, zk122, zk128, zk255, zk800, zk801, zk900, zk999, zk1000, zk1997, zk9999, zk10000, zk100000, zk99999, zk9999999, zk999999999, zk2147483647, zlc0, zlc1, zlc2, zlc3, zlc4, zlc23, zlc99, zlc100, zlc9999999, zlc999999999999, zlc1073741824, zi_neg, zi_add, zi_sub, zi_mul, zl_neg, zl_add, zl_sub, zl_mul, zi_toInt, zi_nat, zi_le, zi_lt, zi_eq, zl_le, zl_lt, zl_eq, zl_toInt, zl_of32, zi_of64, zi_div, zl_div, zmodI, ↓reduceIte, zTle, zFle, zTlt, zFlt, zTeq, zFeq, if_true, if_false, and_self, and_true, true_and, and_false, false_and, or_self, or_true, true_or, or_false, false_or, not_true_eq_false, not_false_eq_true, zcastA, zcastL, znatC, zab, Int.reduceAdd, Int.reduceSub, Int.reduceMul, Int.reduceNeg, Int.reduceToNat, Nat.reduceAdd]
theorem F_ring (d len n : Nat) (ν : zNu) (U : Nat → Nat) (μ : zMu) (L s : Nat) (hR : Rs n U (μ 46)) (hc : μ 45 0 = zi (n : Int)) (hL : 2 ≤ L ∧ L ≤ n) (hs : s < n) (hcl : clo U n L s) (m1 : ∀ K t, 2 ≤ K → K < L → t < n → ¬ clo U n K t) (m2 : ∀ t, t < s → ¬ clo U n L t) : ∃ μ' : zMu, zF zT0 (d + 3) 105 [.ref 45] (zm len μ ν) = some (.int (zi (L : Int)), zm len μ' ν) ∧ (∀ r, r ≠ 49 → r ≠ 50 → μ' r = μ r) ∧ ∀ j, j < L → μ' 49 j = zi (wr U n L s j : Int) := by
  have n10 := hR.1
  obtain ⟨μ1, v1, a1, b1⟩ := fr_L d len n ν U μ hR hc (L - 2) 2 μ zU (Nat.le_refl _) (by omega) (fun K t h1 h2 h3 => m1 K t h1 (by omega) h3) (fun r _ => rfl)
  rw [show 2 + (L - 2) = L by omega] at a1
  have e46 : μ1 46 = μ 46 := b1 46 (by decide)
  have e45 : μ1 45 0 = zi (n : Int) := by rw [b1 45 (by decide)]; exact hc
  obtain ⟨μ2, a2, b2⟩ := fr_s d len n ν U μ1 L (by rw [e46]; exact hR) e45 hL s 0 μ1 (by omega) (fun t _ h => m2 t (by omega)) (fun r _ => rfl)
  rw [Nat.zero_add] at a2
  have c46 : μ2 46 = μ 46 := by rw [b2 46 (by decide)]; exact e46
  have c45 : μ2 45 0 = zi (n : Int) := by rw [b2 45 (by decide)]; exact e45
  obtain ⟨μ3, a3, b3, l3⟩ := F_back (d + 1) len n ν U μ2 s L (by rw [c46]; exact hR) c45 hs (by omega)
  have d46 : μ3 46 = μ 46 := by rw [b3 46 (by decide)]; exact c46
  have d45 : μ3 45 0 = zi (n : Int) := by rw [b3 45 (by decide)]; exact c45
  obtain ⟨μ4, a4, b4, l4⟩ := F_walk d len n ν U μ3 s L (by rw [d46]; exact hR) d45 hs hL hcl l3
  have hl := l3 L (Nat.le_refl _)
  have hcl' : (lb U n s L).testBit s = true := hcl
  refine ⟨μ4, ?_, fun r h1 h2 => by rw [b4 r h1, b3 r h2, b2 r h2]; exact b1 r h2, l4⟩
  have a1' : zE zc_X8_findRing (zF zT0 (d + 2)) 2 [.ref 45, .int (zi 2), zU] [] (zm len μ ν) = _ := a1
  have a2' : zE zc_X8_findRing (zF zT0 (d + 2)) 12 [.ref 45, .int (zi (L : Int)), .int (zi 0)] [] (zm len μ1 ν) = _ := a2
  rw [B_X8_findRing]
  refine Eq.trans a1' ?_
  have g1 : zE zc_X8_findRing (zF zT0 (d + 2)) 2 [.ref 45, .int (zi (L : Int)), v1] [] (zm len μ1 ν) = zE zc_X8_findRing (zF zT0 (d + 2)) 12 [.ref 45, .int (zi (L : Int)), .int (zi 0)] [] (zm len μ1 ν) := by
    rw [B_X8_findRing_2]
    simp (disch := omega) only [e45, zbi_some, zbl_some, zbv_some, zbi_none, zbl_none, zbv_none, zbi_ite, zbl_ite, zbv_ite, zbZ, zbO, zc_lt, zc_le, zc_ge, zc_gt, zc_eq, zk0, zk1, zk2, zk3, zk4, zk5, zk6, zk7, zk8, zk9, zk10, zk11, zk12, zk14, zk15, zk16, zk17, zk19, zk20, zk21, zk24, zk25, zk30, zk32, zk36, zk40, zk45, zk50, zk64, zk97, zk99, zk100, zk102, zk122, zk128, zk255, zk800, zk801, zk900, zk999, zk1000, zk1997, zk9999, zk10000, zk100000, zk99999, zk9999999, zk999999999, zk2147483647, zlc0, zlc1, zlc2, zlc3, zlc4, zlc23, zlc99, zlc100, zlc9999999, zlc999999999999, zlc1073741824, zi_neg, zi_add, zi_sub, zi_mul, zl_neg, zl_add, zl_sub, zl_mul, zi_toInt, zi_nat, zi_le, zi_lt, zi_eq, zl_le, zl_lt, zl_eq, zl_toInt, zl_of32, zi_of64, zi_div, zl_div, zmodI, ↓reduceIte, zTle, zFle, zTlt, zFlt, zTeq, zFeq, if_true, if_false, and_self, and_true, true_and, and_false, false_and, or_self, or_true, true_or, or_false, false_or, not_true_eq_false, not_false_eq_true, zcastA, zcastL, znatC, zab, Int.reduceAdd, Int.reduceSub, Int.reduceMul, Int.reduceNeg, Int.reduceToNat, Nat.reduceAdd]
  rw [g1, a2', B_X8_findRing_12]
  simp (disch := omega) only [c45, a3, B_X8_findRing_26, hl, zb_bit, hcl', a4, B_X8_findRing_45, zbi_some, zbl_some, zbv_some, zbi_none, zbl_none, zbv_none, zbi_ite, zbl_ite, zbv_ite, zbZ, zbO, zc_lt, zc_le, zc_ge, zc_gt, zc_eq, zk0, zk1, zk2, zk3, zk4, zk5, zk6, zk7, zk8, zk9, zk10, zk11, zk12, zk14, zk15, zk16, zk17, zk19, zk20, zk21, zk24, zk25, zk30, zk32, zk36, zk40, zk45, zk50, zk64, zk97, zk99, zk100, zk102, zk122, zk128, zk255, zk800, zk801, zk900, zk999, zk1000, zk1997, zk9999, zk10000, zk100000, zk99999, zk9999999, zk999999999, zk2147483647, zlc0, zlc1, zlc2, zlc3, zlc4, zlc23, zlc99, zlc100, zlc9999999, zlc999999999999, zlc1073741824, zi_neg, zi_add, zi_sub, zi_mul, zl_neg, zl_add, zl_sub, zl_mul, zi_toInt, zi_nat, zi_le, zi_lt, zi_eq, zl_le, zl_lt, zl_eq, zl_toInt, zl_of32, zi_of64, zi_div, zl_div, zmodI, ↓reduceIte, zTle, zFle, zTlt, zFlt, zTeq, zFeq, if_true, if_false, and_self, and_true, true_and, and_false, false_and, or_self, or_true, true_or, or_false, false_or, not_true_eq_false, not_false_eq_true, zcastA, zcastL, znatC, zab, Int.reduceAdd, Int.reduceSub, Int.reduceMul, Int.reduceNeg, Int.reduceToNat, Nat.reduceAdd]

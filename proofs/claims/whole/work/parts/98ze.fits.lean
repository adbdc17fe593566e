/-! TABLET: does a fill fit, the model's loops -/
def sV (ms : List (Nat × Int × Int)) (j : Nat) (x y : Int) : Nat → Int
  | 0 => 0
  | k + 1 => sV ms j x y k + (if mL ms k = (j : Int) then mU ms k * (if k = 0 then x else y) else 0)
def tV (ln : Nat → Ln) (Q : Nat → Nat) (V : Nat → Int) : Nat → Int
  | 0 => 0
  | t + 1 => tV ln Q V t + sgF (ln (Q t)).1 (V t)
theorem sV_2 {ms : List (Nat × Int × Int)} (h : ms.length ≤ 2) (j : Nat) (x y : Int) : sV ms j x y ms.length = sV ms j x y 2 := by
  have z : ∀ k, ms.length ≤ k → sV ms j x y (k + 1) = sV ms j x y k := fun k hk => by
    obtain ⟨a, b, c⟩ := mL_none hk
    show sV ms j x y k + (if mL ms k = (j : Int) then mU ms k * (if k = 0 then x else y) else 0) = sV ms j x y k
    rw [if_neg (show ¬ mL ms k = (j : Int) by omega)]
    omega
  have : ms.length = 0 ∨ ms.length = 1 ∨ ms.length = 2 := by omega
  rcases this with e | e | e
  · rw [e]
    exact ((z 1 (by omega)).trans (z 0 (by omega))).symm
  · rw [e]
    exact (z 1 (by omega)).symm
  · rw [e]
def fr16 (ν ν' : zNu) : Prop := ∀ r, r ≠ 116 → ν' r = ν r
section FT
variable {ln : Nat → Ln} {Q : Nat → Nat} {N o : Nat}
theorem ft_1 (call : zC) (len : Nat) (ho : o ≤ 264) (hN : N ≤ 24) {Y : zMu} (x1 x2 x3 : Int32) (x4 : Int64) (v7 : Value) : ∀ c t : Nat, t + c = N → ∀ (ν : zNu) (v5 : Value), WP o Y ν ln Q N → (∀ p, p < t → ν 116 p = zl (ln (Q p)).2.2.2.1) → ∃ (ν' : zNu) (w5 : Value), zE zc_X12_fits call 6 [.ref 92, .int x1, .int x2, .int x3, .long x4, v5, .int (zi (t : Int)), v7] [] (zm len Y ν) = zE zc_X12_fits call 43 [.ref 92, .int x1, .int x2, .int x3, .long x4, w5, .int (zi ((0 : Nat) : Int)), v7] [] (zm len Y ν') ∧ (∀ p, p < N → ν' 116 p = zl (ln (Q p)).2.2.2.1) ∧ fr16 ν ν' := by
  intro c
  induction c with
  | zero =>
    intro t ht ν v5 hW hT
    have : t = N := by omega
    subst this
    have e31 := hW.1
    refine ⟨ν, zclr v5, ?_, hT, fun _ _ => rfl⟩
    rw [B_X12_fits_6]
    simp (disch := omega) only [e31, zbi_some, zbl_some, zbv_some, zbi_none, zbl_none, zbv_none, zbi_ite, zbl_ite, zbv_ite, zbZ, zbO, zc_lt, zc_le, zc_ge, zc_gt, zc_eq, zk0, zk1, zk2, zk3, zk4, zk5, zk6, zk7, zk8, zk9, zk10, zk11, zk12, zk14, zk15, zk16, zk17, zk19, zk20, zk21, zk24, zk25, zk30, zk32, zk36, zk40, zk45, zk50, zk64, zk97, zk99, zk100, zk102, zk122, zk128, zk255, zk800, zk801, zk900, zk999, zk1000, zk1997, zk9999, zk10000, zk100000, zk99999, zk9999999, zk999999999, zk2147483647, zlc0, zlc1, zlc2, zlc3, zlc4, zlc23, zlc99, zlc100, zlc9999999, zlc999999999999, zlc1073741824, zi_neg, zi_add, zi_sub, zi_mul, zl_neg, zl_add, zl_sub, zl_mul, zi_toInt, zi_nat, zi_le, zi_lt, zi_eq, zl_le, zl_lt, zl_eq, zl_toInt, zl_of32, zi_of64, zi_div, zl_div, zmodI, ↓reduceIte, zTle, zFle, zTlt, zFlt, zTeq, zFeq, if_true, if_false, and_self, and_true, true_and, and_false, false_and, or_self, or_true, true_or, or_false, false_or, not_true_eq_false, not_false_eq_true, zcastA, zcastL, znatC, zab, Int.reduceAdd, Int.reduceSub, Int.reduceMul, Int.reduceNeg, Int.reduceToNat, Nat.reduceAdd]
  | succ c ih =>
    intro t ht ν v5 hW hT
    have e31 := hW.1
    obtain ⟨e112, q24, hv, hM⟩ := hW.2 t (by omega)
    have e102 := hM.2.2.1
    have ix : ((o : Int) + (Q t : Int)).toNat = o + Q t := by omega
    have e112 : Y 112 t = zi ((o : Int) + (Q t : Int)) := e112
    obtain ⟨ν1, hν1⟩ : ∃ ν1, ν1 = zupl ν 116 t (zl (ln (Q t)).2.2.2.1) := ⟨_, rfl⟩
    have f1 : fr16 ν ν1 := fun r hr => by rw [hν1, zupl_nx hr]
    obtain ⟨ν2, w5, B, B1, B2⟩ := ih (t + 1) (by omega) ν1 (zclr v5) (WP_v hW (f1 102 (by decide)) (f1 105 (by decide))) (fun p hp => by
      by_cases z : p = t
      · rw [z, hν1, zupl_ss]
      · rw [hν1, zupl_j z]
        exact hT p (by omega))
    refine ⟨ν2, w5, ?_, B1, fun r hr => by rw [B2 r hr, f1 r hr]⟩
    rw [← B, hν1, B_X12_fits_6]
    simp (disch := omega) only [e31, e112, ix, e102, zbi_some, zbl_some, zbv_some, zbi_none, zbl_none, zbv_none, zbi_ite, zbl_ite, zbv_ite, zbZ, zbO, zc_lt, zc_le, zc_ge, zc_gt, zc_eq, zk0, zk1, zk2, zk3, zk4, zk5, zk6, zk7, zk8, zk9, zk10, zk11, zk12, zk14, zk15, zk16, zk17, zk19, zk20, zk21, zk24, zk25, zk30, zk32, zk36, zk40, zk45, zk50, zk64, zk97, zk99, zk100, zk102, zk122, zk128, zk255, zk800, zk801, zk900, zk999, zk1000, zk1997, zk9999, zk10000, zk100000, zk99999, zk9999999, zk999999999, zk2147483647, zlc0, zlc1, zlc2, zlc3, zlc4, zlc23, zlc99, zlc100, zlc9999999, zlc999999999999, zlc1073741824, zi_neg, zi_add, zi_sub, zi_mul, zl_neg, zl_add, zl_sub, zl_mul, zi_toInt, zi_nat, zi_le, zi_lt, zi_eq, zl_le, zl_lt, zl_eq, zl_toInt, zl_of32, zi_of64, zi_div, zl_div, zmodI, ↓reduceIte, zTle, zFle, zTlt, zFlt, zTeq, zFeq, if_true, if_false, and_self, and_true, true_and, and_false, false_and, or_self, or_true, true_or, or_false, false_or, not_true_eq_false, not_false_eq_true, zcastA, zcastL, znatC, zab, Int.reduceAdd, Int.reduceSub, Int.reduceMul, Int.reduceNeg, Int.reduceToNat, Nat.reduceAdd]
theorem ft_2 (call : zC) (len : Nat) (hN : N ≤ 24) (hQ : ∀ p q, p < q → q < N → Q p < Q q) {ms : List (Nat × Int × Int)} {lq : Int} (hms : ms.length ≤ 2) (H : Nat → Int) {Y : zMu} {x y : Int} (hx : 0 ≤ x ∧ x ≤ 99) (hy : 0 ≤ y ∧ y ≤ 99) (x3 : Int32) (x4 : Int64) (v7 : Value) : ∀ c k : Nat, k + c = ms.length → ∀ (ν : zNu) (v5 : Value), TU Q N ms lq Y ν → (∀ p, p < N → ν 116 p = zl (H p + sV ms (Q p) x y k)) → ∃ (ν' : zNu) (w5 : Value), zE zc_X12_fits call 43 [.ref 92, .int (zi x), .int (zi y), .int x3, .long x4, v5, .int (zi (k : Int)), v7] [] (zm len Y ν) = zE zc_X12_fits call 115 [.ref 92, .int (zi x), .int (zi y), .int x3, .long x4, w5, .int (zi ((0 : Nat) : Int)), v7] [] (zm len Y ν') ∧ (∀ p, p < N → ν' 116 p = zl (H p + sV ms (Q p) x y ms.length)) ∧ fr16 ν ν' := by
  intro c
  induction c with
  | zero =>
    intro k hk ν v5 hT hS
    have : k = ms.length := by omega
    subst this
    have e35 := hT.1
    refine ⟨ν, zclr v5, ?_, hS, fun _ _ => rfl⟩
    rw [B_X12_fits_43]
    simp (disch := omega) only [e35, zbi_some, zbl_some, zbv_some, zbi_none, zbl_none, zbv_none, zbi_ite, zbl_ite, zbv_ite, zbZ, zbO, zc_lt, zc_le, zc_ge, zc_gt, zc_eq, zk0, zk1, zk2, zk3, zk4, zk5, zk6, zk7, zk8, zk9, zk10, zk11, zk12, zk14, zk15, zk16, zk17, zk19, zk20, zk21, zk24, zk25, zk30, zk32, zk36, zk40, zk45, zk50, zk64, zk97, zk99, zk100, zk102, zk122, zk128, zk255, zk800, zk801, zk900, zk999, zk1000, zk1997, zk9999, zk10000, zk100000, zk99999, zk9999999, zk999999999, zk2147483647, zlc0, zlc1, zlc2, zlc3, zlc4, zlc23, zlc99, zlc100, zlc9999999, zlc999999999999, zlc1073741824, zi_neg, zi_add, zi_sub, zi_mul, zl_neg, zl_add, zl_sub, zl_mul, zi_toInt, zi_nat, zi_le, zi_lt, zi_eq, zl_le, zl_lt, zl_eq, zl_toInt, zl_of32, zi_of64, zi_div, zl_div, zmodI, ↓reduceIte, zTle, zFle, zTlt, zFlt, zTeq, zFeq, if_true, if_false, and_self, and_true, true_and, and_false, false_and, or_self, or_true, true_or, or_false, false_or, not_true_eq_false, not_false_eq_true, zcastA, zcastL, znatC, zab, Int.reduceAdd, Int.reduceSub, Int.reduceMul, Int.reduceNeg, Int.reduceToNat, Nat.reduceAdd]
  | succ c ih =>
    intro k hk ν v5 hT hS
    obtain ⟨e35, e36, tm⟩ := hT
    obtain ⟨q, hq⟩ : ∃ q, ms[k]? = some q := ⟨ms[k]'(by omega), List.getElem?_eq_getElem (by omega)⟩
    obtain ⟨⟨p, p1, p2, p3⟩, p4, p5⟩ := tm k q hq
    obtain ⟨l1, l2, l3⟩ := mL_some hq
    have s116 := hS p p1
    obtain ⟨f, hf⟩ : ∃ f : Int, f = if k = 0 then x else y := ⟨_, rfl⟩
    obtain ⟨ml, hml⟩ : ∃ ml, ml = ms.length := ⟨_, rfl⟩
    obtain ⟨ν1, hν1⟩ : ∃ ν1, ν1 = zupl ν 116 p (zl (H p + sV ms (Q p) x y k + q.2.1 * f)) := ⟨_, rfl⟩
    have f1 : fr16 ν ν1 := fun r hr => by rw [hν1, zupl_nx hr]
    have S1 : ∀ t, t < N → ν1 116 t = zl (H t + sV ms (Q t) x y (k + 1)) := fun t ht => by
      show ν1 116 t = zl (H t + (sV ms (Q t) x y k + (if mL ms k = (Q t : Int) then mU ms k * (if k = 0 then x else y) else 0)))
      rw [l1, l2, ← hf, hν1]
      by_cases z : t = p
      · subst z
        rw [zupl_ss, if_pos (show (q.1 : Int) = (Q t : Int) by omega), Int.add_assoc]
      · have ne : Q t ≠ Q p := by
          rcases Nat.lt_or_ge t p with w | w
          · have := hQ t p w p1
            omega
          · have := hQ p t (by omega) ht
            omega
        rw [zupl_j z, if_neg (show ¬ (q.1 : Int) = (Q t : Int) by omega), Int.add_zero]
        exact hS t ht
    have T1 : TU Q N ms lq Y ν1 := ⟨e35, e36, fun y r hr => by
      rw [f1 114 (by decide)]
      exact tm y r hr⟩
    obtain ⟨ν2, w5, B, B1, B2⟩ := ih (k + 1) (by omega) ν1 (zclr v5) T1 S1
    refine ⟨ν2, w5, ?_, B1, fun r hr => by rw [B2 r hr, f1 r hr]⟩
    rw [← B, hν1, B_X12_fits_43]
    rw [← hml] at e35 hk hms
    have : k = 0 ∨ k = 1 := by omega
    rcases this with z | z <;> subst z
    · have hf : f = x := hf
      rw [hf]
      simp (disch := omega) only [e35, p2, p4, s116, B_X12_fits_102, zbi_some, zbl_some, zbv_some, zbi_none, zbl_none, zbv_none, zbi_ite, zbl_ite, zbv_ite, zbZ, zbO, zc_lt, zc_le, zc_ge, zc_gt, zc_eq, zk0, zk1, zk2, zk3, zk4, zk5, zk6, zk7, zk8, zk9, zk10, zk11, zk12, zk14, zk15, zk16, zk17, zk19, zk20, zk21, zk24, zk25, zk30, zk32, zk36, zk40, zk45, zk50, zk64, zk97, zk99, zk100, zk102, zk122, zk128, zk255, zk800, zk801, zk900, zk999, zk1000, zk1997, zk9999, zk10000, zk100000, zk99999, zk9999999, zk999999999, zk2147483647, zlc0, zlc1, zlc2, zlc3, zlc4, zlc23, zlc99, zlc100, zlc9999999, zlc999999999999, zlc1073741824, zi_neg, zi_add, zi_sub, zi_mul, zl_neg, zl_add, zl_sub, zl_mul, zi_toInt, zi_nat, zi_le, zi_lt, zi_eq, zl_le, zl_lt, zl_eq, zl_toInt, zl_of32, zi_of64, zi_div, zl_div, zmodI, ↓reduceIte, zTle, zFle, zTlt, zFlt, zTeq, zFeq, if_true, if_false, and_self, and_true, true_and, and_false, false_and, or_self, or_true, true_or, or_false, false_or, not_true_eq_false, not_false_eq_true, zcastA, zcastL, znatC, zab, Int.reduceAdd, Int.reduceSub, Int.reduceMul, Int.reduceNeg, Int.reduceToNat, Nat.reduceAdd]
    · have hf : f = y := hf
      rw [hf]
      simp (disch := omega) only [e35, p2, p4, s116, B_X12_fits_102, zbi_some, zbl_some, zbv_some, zbi_none, zbl_none, zbv_none, zbi_ite, zbl_ite, zbv_ite, zbZ, zbO, zc_lt, zc_le, zc_ge, zc_gt, zc_eq, zk0, zk1, zk2, zk3, zk4, zk5, zk6, zk7, zk8, zk9, zk10, zk11, zk12, zk14, zk15, zk16, zk17, zk19, zk20, zk21, zk24, zk25, zk30, zk32, zk36, zk40, zk45, zk50, zk64, zk97, zk99, zk100, zk102, zk122, zk128, zk255, zk800, zk801, zk900, zk999, zk1000, zk1997, zk9999, zk10000, zk100000, zk99999, zk9999999, zk999999999, zk2147483647, zlc0, zlc1, zlc2, zlc3, zlc4, zlc23, zlc99, zlc100, zlc9999999, zlc999999999999, zlc1073741824, zi_neg, zi_add, zi_sub, zi_mul, zl_neg, zl_add, zl_sub, zl_mul, zi_toInt, zi_nat, zi_le, zi_lt, zi_eq, zl_le, zl_lt, zl_eq, zl_toInt, zl_of32, zi_of64, zi_div, zl_div, zmodI, ↓reduceIte, zTle, zFle, zTlt, zFlt, zTeq, zFeq, if_true, if_false, and_self, and_true, true_and, and_false, false_and, or_self, or_true, true_or, or_false, false_or, not_true_eq_false, not_false_eq_true, zcastA, zcastL, znatC, zab, Int.reduceAdd, Int.reduceSub, Int.reduceMul, Int.reduceNeg, Int.reduceToNat, Nat.reduceAdd]
theorem F_sgo (d len : Nat) {Y : zMu} (ν : zNu) (ho : o ≤ 264) {i : Nat} (hi : i < 24) (e : Y 100 (o + i) = zi (ln i).1) (hs : 0 ≤ (ln i).1 ∧ (ln i).1 ≤ 2) : zF zT0 (d + 1) 211 [.ref 92, .int (zi ((o : Int) + (i : Int)))] (zm len Y ν) = some (.int (zi (if (ln i).1 = 0 then 1 else -1)), zm len Y ν) := by
  have ix : ((o : Int) + (i : Int)).toNat = o + i := by omega
  have zm1 : (-1 : Int32) = zi (-1) := rfl
  rw [B_X12_signOf]
  by_cases z : (ln i).1 = 0
  · rw [if_pos z]
    simp (disch := omega) only [ix, e, z, zbi_some, zbl_some, zbv_some, zbi_none, zbl_none, zbv_none, zbi_ite, zbl_ite, zbv_ite, zbZ, zbO, zc_lt, zc_le, zc_ge, zc_gt, zc_eq, zk0, zk1, zk2, zk3, zk4, zk5, zk6, zk7, zk8, zk9, zk10, zk11, zk12, zk14, zk15, zk16, zk17, zk19, zk20, zk21, zk24, zk25, zk30, zk32, zk36, zk40, zk45, zk50, zk64, zk97, zk99, zk100, zk102, zk122, zk128, zk255, zk800, zk801, zk900, zk999, zk1000, zk1997, zk9999, zk10000, zk100000, zk99999, zk9999999, zk999999999, zk2147483647, zlc0, zlc1, zlc2, zlc3, zlc4, zlc23, zlc99, zlc100, zlc9999999, zlc999999999999, zlc1073741824, zi_neg, zi_add, zi_sub, zi_mul, zl_neg, zl_add, zl_sub, zl_mul, zi_toInt, zi_nat, zi_le, zi_lt, zi_eq, zl_le, zl_lt, zl_eq, zl_toInt, zl_of32, zi_of64, zi_div, zl_div, zmodI, ↓reduceIte, zTle, zFle, zTlt, zFlt, zTeq, zFeq, if_true, if_false, and_self, and_true, true_and, and_false, false_and, or_self, or_true, true_or, or_false, false_or, not_true_eq_false, not_false_eq_true, zcastA, zcastL, znatC, zab, Int.reduceAdd, Int.reduceSub, Int.reduceMul, Int.reduceNeg, Int.reduceToNat, Nat.reduceAdd]
  · rw [if_neg z]
    simp (disch := omega) only [ix, e, z, zm1, zbi_some, zbl_some, zbv_some, zbi_none, zbl_none, zbv_none, zbi_ite, zbl_ite, zbv_ite, zbZ, zbO, zc_lt, zc_le, zc_ge, zc_gt, zc_eq, zk0, zk1, zk2, zk3, zk4, zk5, zk6, zk7, zk8, zk9, zk10, zk11, zk12, zk14, zk15, zk16, zk17, zk19, zk20, zk21, zk24, zk25, zk30, zk32, zk36, zk40, zk45, zk50, zk64, zk97, zk99, zk100, zk102, zk122, zk128, zk255, zk800, zk801, zk900, zk999, zk1000, zk1997, zk9999, zk10000, zk100000, zk99999, zk9999999, zk999999999, zk2147483647, zlc0, zlc1, zlc2, zlc3, zlc4, zlc23, zlc99, zlc100, zlc9999999, zlc999999999999, zlc1073741824, zi_neg, zi_add, zi_sub, zi_mul, zl_neg, zl_add, zl_sub, zl_mul, zi_toInt, zi_nat, zi_le, zi_lt, zi_eq, zl_le, zl_lt, zl_eq, zl_toInt, zl_of32, zi_of64, zi_div, zl_div, zmodI, ↓reduceIte, zTle, zFle, zTlt, zFlt, zTeq, zFeq, if_true, if_false, and_self, and_true, true_and, and_false, false_and, or_self, or_true, true_or, or_false, false_or, not_true_eq_false, not_false_eq_true, zcastA, zcastL, znatC, zab, Int.reduceAdd, Int.reduceSub, Int.reduceMul, Int.reduceNeg, Int.reduceToNat, Nat.reduceAdd]
theorem sg_m (s v : Int) : (if s = 0 then (1 : Int) else -1) * v = sgF s v := by
  unfold sgF
  by_cases z : s = 0
  · rw [if_pos z, if_pos z, Int.one_mul]
  · rw [if_neg z, if_neg z, Int.neg_one_mul]
end FT

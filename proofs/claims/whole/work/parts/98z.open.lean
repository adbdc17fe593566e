/-! TABLET: an open BLOCK's fills, the model's -/
def sO (ms : List (Nat × Int × Int)) (j : Nat) : Nat → Int
  | 0 => 0
  | x + 1 => sO ms j x + (if mL ms x = (j : Int) then mU ms x * mW ms x else 0)
def pO (ms : List (Nat × Int × Int)) : Nat → Int
  | 0 => 1
  | x + 1 => pO ms x * (mW ms x + 1)
theorem mL_some {ms : List (Nat × Int × Int)} {x : Nat} {q : Nat × Int × Int} (h : ms[x]? = some q) : mL ms x = (q.1 : Int) ∧ mU ms x = q.2.1 ∧ mW ms x = q.2.2 := by
  unfold mL mU mW
  rw [h]
  exact ⟨rfl, rfl, rfl⟩
theorem mL_none {ms : List (Nat × Int × Int)} {x : Nat} (h : ms.length ≤ x) : mL ms x = -1 ∧ mU ms x = 0 ∧ mW ms x = 0 := by
  unfold mL mU mW
  rw [List.getElem?_eq_none h]
  exact ⟨rfl, rfl, rfl⟩
theorem sO_2 {ms : List (Nat × Int × Int)} (h : ms.length ≤ 2) (j : Nat) : sO ms j ms.length = sO ms j 2 ∧ pO ms ms.length = pO ms 2 := by
  have z : ∀ x, ms.length ≤ x → sO ms j (x + 1) = sO ms j x ∧ pO ms (x + 1) = pO ms x := fun x hx => by
    obtain ⟨a, b, c⟩ := mL_none hx
    refine ⟨?_, ?_⟩
    · show sO ms j x + (if mL ms x = (j : Int) then mU ms x * mW ms x else 0) = sO ms j x
      rw [if_neg (by omega)]
      omega
    · show pO ms x * (mW ms x + 1) = pO ms x
      rw [c]
      omega
  have : ms.length = 0 ∨ ms.length = 1 ∨ ms.length = 2 := by omega
  rcases this with e | e | e
  · rw [e]
    have a := z 0 (by omega)
    have b := z 1 (by omega)
    exact ⟨(b.1.trans a.1).symm, (b.2.trans a.2).symm⟩
  · rw [e]
    have b := z 1 (by omega)
    exact ⟨b.1.symm, b.2.symm⟩
  · rw [e]
    exact ⟨rfl, rfl⟩
def frV (o : Nat) (Q : Nat → Nat) (N : Nat) (ν ν' : zNu) : Prop := (∀ r, r ≠ 107 → r ≠ 108 → ν' r = ν r) ∧ ∀ i, (∀ p, p < N → i ≠ o + Q p) → ν' 107 i = ν 107 i ∧ ν' 108 i = ν 108 i
theorem frV_rf (o : Nat) (Q : Nat → Nat) (N : Nat) (ν : zNu) : frV o Q N ν ν := ⟨fun _ _ _ => rfl, fun _ _ => ⟨rfl, rfl⟩⟩
theorem frV_tr {o : Nat} {Q : Nat → Nat} {N : Nat} {ν ν' ν'' : zNu} (h : frV o Q N ν ν') (h2 : frV o Q N ν' ν'') : frV o Q N ν ν'' := ⟨fun r a b => by rw [h2.1 r a b, h.1 r a b], fun i hi => by rw [(h2.2 i hi).1, (h2.2 i hi).2]; exact h.2 i hi⟩
theorem WP_v {o N : Nat} {Y : zMu} {ν ν' : zNu} {ln : Nat → Ln} {Q : Nat → Nat} (h : WP o Y ν ln Q N) (e2 : ν' 102 = ν 102) (e5 : ν' 105 = ν 105) : WP o Y ν' ln Q N := ⟨h.1, fun p hp => by
  obtain ⟨a, b, c, e⟩ := h.2 p hp
  refine ⟨a, b, c, ?_⟩
  unfold MlinO
  rw [e2, e5]
  exact e⟩
section OP
variable {ln : Nat → Ln} {Q : Nat → Nat} {N o : Nat}
def l9 (lq : Int) (t : Nat) : Int := if (t : Int) = lq then 99999 else 0
theorem op_1 (call : zC) (len : Nat) (ho : o ≤ 264) (hN : N ≤ 24) (hQ : ∀ p q, p < q → q < N → Q p < Q q) {lq : Int} (hlq : -1 ≤ lq ∧ lq ≤ 24) (x1 : Int64) {Y : zMu} (e36 : Y 92 36 = zi lq) : ∀ c t : Nat, t + c = N → ∀ (ν : zNu) (v2 v4 : Value), WP o Y ν ln Q N → (∀ p, p < t → ν 107 (o + Q p) = zl (ln (Q p)).2.2.2.1 ∧ ν 108 (o + Q p) = zl ((ln (Q p)).2.2.2.1 + l9 lq p)) → ∃ (ν' : zNu) (w2 : Value), zE zc_X12_openFills call 18 [.ref 92, .long x1, v2, .int (zi (t : Int)), v4] [] (zm len Y ν) = zE zc_X12_openFills call 95 [.ref 92, .long x1, w2, .int (zi 0), v4] [] (zm len Y ν') ∧ (∀ p, p < N → ν' 107 (o + Q p) = zl (ln (Q p)).2.2.2.1 ∧ ν' 108 (o + Q p) = zl ((ln (Q p)).2.2.2.1 + l9 lq p)) ∧ frV o Q N ν ν' := by
  intro c
  induction c with
  | zero =>
    intro t ht ν v2 v4 hW hT
    have : t = N := by omega
    subst this
    have e31 := hW.1
    refine ⟨ν, zclr v2, ?_, hT, frV_rf o Q t ν⟩
    rw [B_X12_openFills_18]
    simp (disch := omega) only [e31, zbi_some, zbl_some, zbv_some, zbi_none, zbl_none, zbv_none, zbi_ite, zbl_ite, zbv_ite, zbZ, zbO, zc_lt, zc_le, zc_ge, zc_gt, zc_eq, zk0, zk1, zk2, zk3, zk4, zk5, zk6, zk7, zk8, zk9, zk10, zk11, zk12, zk14, zk15, zk16, zk17, zk19, zk20, zk21, zk24, zk25, zk30, zk32, zk36, zk40, zk45, zk50, zk64, zk97, zk99, zk100, zk102, zk122, zk128, zk255, zk800, zk801, zk900, zk999, zk1000, zk1997, zk9999, zk10000, zk100000, zk99999, zk9999999, zk999999999, zk2147483647, zlc0, zlc1, zlc2, zlc3, zlc4, zlc23, zlc99, zlc100, zlc9999999, zlc999999999999, zlc1073741824, zi_neg, zi_add, zi_sub, zi_mul, zl_neg, zl_add, zl_sub, zl_mul, zi_toInt, zi_nat, zi_le, zi_lt, zi_eq, zl_le, zl_lt, zl_eq, zl_toInt, zl_of32, zi_of64, zi_div, zl_div, zmodI, ↓reduceIte, zTle, zFle, zTlt, zFlt, zTeq, zFeq, if_true, if_false, and_self, and_true, true_and, and_false, false_and, or_self, or_true, true_or, or_false, false_or, not_true_eq_false, not_false_eq_true, zcastA, zcastL, znatC, zab, Int.reduceAdd, Int.reduceSub, Int.reduceMul, Int.reduceNeg, Int.reduceToNat, Nat.reduceAdd]
  | succ c ih =>
    intro t ht ν v2 v4 hW hT
    have e31 := hW.1
    obtain ⟨e112, q24, hv, hM⟩ := hW.2 t (by omega)
    have e102 := hM.2.2.1
    have ix : ((o : Int) + (Q t : Int)).toNat = o + Q t := by omega
    have e112 : Y 112 t = zi ((o : Int) + (Q t : Int)) := e112
    obtain ⟨ν1, hν1⟩ : ∃ ν1, ν1 = zupl (zupl ν 107 (o + Q t) (zl (ln (Q t)).2.2.2.1)) 108 (o + Q t) (zl ((ln (Q t)).2.2.2.1 + l9 lq t)) := ⟨_, rfl⟩
    have f1 : frV o Q N ν ν1 := by
      rw [hν1]
      refine ⟨fun r a b => by rw [zupl_nx b, zupl_nx a], fun i hi => ?_⟩
      have ne := hi t (by omega)
      rw [zupl_j ne, zupl_j ne, zupl_j ne, zupl_j ne]
      exact ⟨rfl, rfl⟩
    have T1 : ∀ p, p < t + 1 → ν1 107 (o + Q p) = zl (ln (Q p)).2.2.2.1 ∧ ν1 108 (o + Q p) = zl ((ln (Q p)).2.2.2.1 + l9 lq p) := fun p hp => by
      rw [hν1]
      by_cases z : p = t
      · subst z
        refine ⟨?_, ?_⟩
        · rw [zupl_nx (by decide), zupl_ss]
        · rw [zupl_ss]
      · have := hQ p t (by omega) (by omega)
        have ne : o + Q p ≠ o + Q t := by omega
        rw [zupl_j ne, zupl_j ne, zupl_j ne, zupl_j ne]
        exact hT p (by omega)
    obtain ⟨ν2, w2, B, B1, B2⟩ := ih (t + 1) (by omega) ν1 (zclr v2) v4 (WP_v hW (f1.1 102 (by decide) (by decide)) (f1.1 105 (by decide) (by decide))) T1
    refine ⟨ν2, w2, ?_, B1, frV_tr f1 B2⟩
    rw [← B, hν1, B_X12_openFills_18]
    unfold l9
    by_cases z : (t : Int) = lq
    · have e36' : Y 92 36 = zi (t : Int) := by rw [z]; exact e36
      rw [if_pos z]
      simp (disch := omega) only [e31, e112, ix, e36', e102, B_X12_openFills_84, zbi_some, zbl_some, zbv_some, zbi_none, zbl_none, zbv_none, zbi_ite, zbl_ite, zbv_ite, zbZ, zbO, zc_lt, zc_le, zc_ge, zc_gt, zc_eq, zk0, zk1, zk2, zk3, zk4, zk5, zk6, zk7, zk8, zk9, zk10, zk11, zk12, zk14, zk15, zk16, zk17, zk19, zk20, zk21, zk24, zk25, zk30, zk32, zk36, zk40, zk45, zk50, zk64, zk97, zk99, zk100, zk102, zk122, zk128, zk255, zk800, zk801, zk900, zk999, zk1000, zk1997, zk9999, zk10000, zk100000, zk99999, zk9999999, zk999999999, zk2147483647, zlc0, zlc1, zlc2, zlc3, zlc4, zlc23, zlc99, zlc100, zlc9999999, zlc999999999999, zlc1073741824, zi_neg, zi_add, zi_sub, zi_mul, zl_neg, zl_add, zl_sub, zl_mul, zi_toInt, zi_nat, zi_le, zi_lt, zi_eq, zl_le, zl_lt, zl_eq, zl_toInt, zl_of32, zi_of64, zi_div, zl_div, zmodI, ↓reduceIte, zTle, zFle, zTlt, zFlt, zTeq, zFeq, if_true, if_false, and_self, and_true, true_and, and_false, false_and, or_self, or_true, true_or, or_false, false_or, not_true_eq_false, not_false_eq_true, zcastA, zcastL, znatC, zab, Int.reduceAdd, Int.reduceSub, Int.reduceMul, Int.reduceNeg, Int.reduceToNat, Nat.reduceAdd]
    · rw [if_neg z]
      simp (disch := omega) only [e31, e112, ix, e36, z, e102, B_X12_openFills_84, zbi_some, zbl_some, zbv_some, zbi_none, zbl_none, zbv_none, zbi_ite, zbl_ite, zbv_ite, zbZ, zbO, zc_lt, zc_le, zc_ge, zc_gt, zc_eq, zk0, zk1, zk2, zk3, zk4, zk5, zk6, zk7, zk8, zk9, zk10, zk11, zk12, zk14, zk15, zk16, zk17, zk19, zk20, zk21, zk24, zk25, zk30, zk32, zk36, zk40, zk45, zk50, zk64, zk97, zk99, zk100, zk102, zk122, zk128, zk255, zk800, zk801, zk900, zk999, zk1000, zk1997, zk9999, zk10000, zk100000, zk99999, zk9999999, zk999999999, zk2147483647, zlc0, zlc1, zlc2, zlc3, zlc4, zlc23, zlc99, zlc100, zlc9999999, zlc999999999999, zlc1073741824, zi_neg, zi_add, zi_sub, zi_mul, zl_neg, zl_add, zl_sub, zl_mul, zi_toInt, zi_nat, zi_le, zi_lt, zi_eq, zl_le, zl_lt, zl_eq, zl_toInt, zl_of32, zi_of64, zi_div, zl_div, zmodI, ↓reduceIte, zTle, zFle, zTlt, zFlt, zTeq, zFeq, if_true, if_false, and_self, and_true, true_and, and_false, false_and, or_self, or_true, true_or, or_false, false_or, not_true_eq_false, not_false_eq_true, zcastA, zcastL, znatC, zab, Int.reduceAdd, Int.reduceSub, Int.reduceMul, Int.reduceNeg, Int.reduceToNat, Nat.reduceAdd]
theorem op_2 (call : zC) (len : Nat) (ho : o ≤ 264) (hN : N ≤ 24) (hQ : ∀ p q, p < q → q < N → Q p < Q q) {ms : List (Nat × Int × Int)} {lq : Int} (hms : ms.length ≤ 2) (hmv : ∀ q, q ∈ ms → (1 ≤ q.2.1 ∧ q.2.1 ≤ 99999) ∧ 1 ≤ q.2.2 ∧ q.2.2 ≤ 99) (c0 : Int) (H : Nat → Int) {Y : zMu} : ∀ c x : Nat, x + c = ms.length → ∀ (ν : zNu) (v2 v4 : Value), WP o Y ν ln Q N → TU Q N ms lq Y ν → (∀ p, p < N → ν 108 (o + Q p) = zl (H p + sO ms (Q p) x)) → ∃ ν', zE zc_X12_openFills call 95 [.ref 92, .long (zl (c0 * pO ms x)), v2, .int (zi (x : Int)), v4] [] (zm len Y ν) = some (.long (zl (c0 * pO ms ms.length)), zm len Y ν') ∧ (∀ p, p < N → ν' 108 (o + Q p) = zl (H p + sO ms (Q p) ms.length)) ∧ ν' 107 = ν 107 ∧ frV o Q N ν ν' := by
  intro c
  induction c with
  | zero =>
    intro x hx ν v2 v4 hW hT hS
    have : x = ms.length := by omega
    subst this
    have e35 := hT.1
    refine ⟨ν, ?_, hS, rfl, frV_rf o Q N ν⟩
    rw [B_X12_openFills_95]
    simp (disch := omega) only [e35, zbi_some, zbl_some, zbv_some, zbi_none, zbl_none, zbv_none, zbi_ite, zbl_ite, zbv_ite, zbZ, zbO, zc_lt, zc_le, zc_ge, zc_gt, zc_eq, zk0, zk1, zk2, zk3, zk4, zk5, zk6, zk7, zk8, zk9, zk10, zk11, zk12, zk14, zk15, zk16, zk17, zk19, zk20, zk21, zk24, zk25, zk30, zk32, zk36, zk40, zk45, zk50, zk64, zk97, zk99, zk100, zk102, zk122, zk128, zk255, zk800, zk801, zk900, zk999, zk1000, zk1997, zk9999, zk10000, zk100000, zk99999, zk9999999, zk999999999, zk2147483647, zlc0, zlc1, zlc2, zlc3, zlc4, zlc23, zlc99, zlc100, zlc9999999, zlc999999999999, zlc1073741824, zi_neg, zi_add, zi_sub, zi_mul, zl_neg, zl_add, zl_sub, zl_mul, zi_toInt, zi_nat, zi_le, zi_lt, zi_eq, zl_le, zl_lt, zl_eq, zl_toInt, zl_of32, zi_of64, zi_div, zl_div, zmodI, ↓reduceIte, zTle, zFle, zTlt, zFlt, zTeq, zFeq, if_true, if_false, and_self, and_true, true_and, and_false, false_and, or_self, or_true, true_or, or_false, false_or, not_true_eq_false, not_false_eq_true, zcastA, zcastL, znatC, zab, Int.reduceAdd, Int.reduceSub, Int.reduceMul, Int.reduceNeg, Int.reduceToNat, Nat.reduceAdd]
  | succ c ih =>
    intro x hx ν v2 v4 hW hT hS
    obtain ⟨e35, e36, tm⟩ := hT
    obtain ⟨q, hq⟩ : ∃ q, ms[x]? = some q := ⟨ms[x]'(by omega), List.getElem?_eq_getElem (by omega)⟩
    obtain ⟨⟨p, p1, p2, p3⟩, p4, p5⟩ := tm x q hq
    obtain ⟨l1, l2, l3⟩ := mL_some hq
    have qv := hmv q (List.mem_of_getElem? hq)
    obtain ⟨e112, q24, hv, hM⟩ := hW.2 p p1
    have e112 : Y 112 p = zi ((o : Int) + (Q p : Int)) := e112
    have ix : ((o : Int) + (Q p : Int)).toNat = o + Q p := by omega
    have s108 := hS p p1
    obtain ⟨ml, hml⟩ : ∃ ml, ml = ms.length := ⟨_, rfl⟩
    obtain ⟨ν1, hν1⟩ : ∃ ν1, ν1 = zupl ν 108 (o + Q p) (zl (H p + sO ms (Q p) x + q.2.1 * q.2.2)) := ⟨_, rfl⟩
    have f1 : frV o Q N ν ν1 := by
      rw [hν1]
      refine ⟨fun r a b => by rw [zupl_nx b], fun i hi => ?_⟩
      have ne := hi p p1
      rw [zupl_j ne, zupl_j ne]
      exact ⟨rfl, rfl⟩
    have S1 : ∀ t, t < N → ν1 108 (o + Q t) = zl (H t + sO ms (Q t) (x + 1)) := fun t ht => by
      show ν1 108 (o + Q t) = zl (H t + (sO ms (Q t) x + (if mL ms x = (Q t : Int) then mU ms x * mW ms x else 0)))
      rw [l1, l2, l3, hν1]
      by_cases z : t = p
      · subst z
        rw [zupl_ss, if_pos (by omega), Int.add_assoc]
      · have ne : Q t ≠ Q p := by
          rcases Nat.lt_or_ge t p with w | w
          · have := hQ t p w p1
            omega
          · have := hQ p t (by omega) ht
            omega
        rw [zupl_j (show o + Q t ≠ o + Q p by omega), if_neg (by omega), Int.add_zero]
        exact hS t ht
    have T1 : TU Q N ms lq Y ν1 := ⟨e35, e36, fun y r hr => by
      rw [f1.1 114 (by decide) (by decide)]
      exact tm y r hr⟩
    obtain ⟨ν2, B, B1, B2, B3⟩ := ih (x + 1) (by omega) ν1 zU (.int (zi ((o : Int) + (Q p : Int)))) (WP_v hW (f1.1 102 (by decide) (by decide)) (f1.1 105 (by decide) (by decide))) T1 S1
    have e107 : ν1 107 = ν 107 := by rw [hν1]; exact zupl_nx (by decide)
    refine ⟨ν2, ?_, B1, by rw [B2, e107], frV_tr f1 B3⟩
    have pe : c0 * pO ms (x + 1) = c0 * pO ms x * (q.2.2 + 1) := by
      show c0 * (pO ms x * (mW ms x + 1)) = _
      rw [l3, Int.mul_assoc]
    rw [← B, pe, hν1, B_X12_openFills_95]
    rw [← hml] at e35 hx hms
    simp (disch := omega) only [e35, p2, p5, p4, e112, ix, s108, zbi_some, zbl_some, zbv_some, zbi_none, zbl_none, zbv_none, zbi_ite, zbl_ite, zbv_ite, zbZ, zbO, zc_lt, zc_le, zc_ge, zc_gt, zc_eq, zk0, zk1, zk2, zk3, zk4, zk5, zk6, zk7, zk8, zk9, zk10, zk11, zk12, zk14, zk15, zk16, zk17, zk19, zk20, zk21, zk24, zk25, zk30, zk32, zk36, zk40, zk45, zk50, zk64, zk97, zk99, zk100, zk102, zk122, zk128, zk255, zk800, zk801, zk900, zk999, zk1000, zk1997, zk9999, zk10000, zk100000, zk99999, zk9999999, zk999999999, zk2147483647, zlc0, zlc1, zlc2, zlc3, zlc4, zlc23, zlc99, zlc100, zlc9999999, zlc999999999999, zlc1073741824, zi_neg, zi_add, zi_sub, zi_mul, zl_neg, zl_add, zl_sub, zl_mul, zi_toInt, zi_nat, zi_le, zi_lt, zi_eq, zl_le, zl_lt, zl_eq, zl_toInt, zl_of32, zi_of64, zi_div, zl_div, zmodI, ↓reduceIte, zTle, zFle, zTlt, zFlt, zTeq, zFeq, if_true, if_false, and_self, and_true, true_and, and_false, false_and, or_self, or_true, true_or, or_false, false_or, not_true_eq_false, not_false_eq_true, zcastA, zcastL, znatC, zab, Int.reduceAdd, Int.reduceSub, Int.reduceMul, Int.reduceNeg, Int.reduceToNat, Nat.reduceAdd]
end OP

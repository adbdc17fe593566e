/-! TABLET: a BLOCK worked out, the model's; the open one -/
def frW (o : Nat) (Q : Nat → Nat) (N : Nat) (Y Y' : zMu) (ν ν' : zNu) : Prop := (∀ r, r ≠ 92 → r ≠ 109 → r ≠ 113 → r ≠ 115 → Y' r = Y r) ∧ (∀ i, i ≠ 35 → i ≠ 36 → Y' 92 i = Y 92 i) ∧ (∀ i, (∀ p, p < N → i ≠ o + Q p) → Y' 109 i = Y 109 i) ∧ (∀ r, r ≠ 107 → r ≠ 108 → r ≠ 114 → r ≠ 116 → ν' r = ν r) ∧ ∀ i, (∀ p, p < N → i ≠ o + Q p) → ν' 107 i = ν 107 i ∧ ν' 108 i = ν 108 i
theorem frW_tr {o : Nat} {Q : Nat → Nat} {N : Nat} {Y Y' Y'' : zMu} {ν ν' ν'' : zNu} (h : frW o Q N Y Y' ν ν') (h2 : frW o Q N Y' Y'' ν' ν'') : frW o Q N Y Y'' ν ν'' := ⟨fun r a b c e => by rw [h2.1 r a b c e, h.1 r a b c e], fun i a b => by rw [h2.2.1 i a b, h.2.1 i a b], fun i hi => by rw [h2.2.2.1 i hi, h.2.2.1 i hi], fun r a b c e => by rw [h2.2.2.2.1 r a b c e, h.2.2.2.1 r a b c e], fun i hi => by rw [(h2.2.2.2.2 i hi).1, (h2.2.2.2.2 i hi).2]; exact h.2.2.2.2 i hi⟩
theorem frW_t {o : Nat} {Q : Nat → Nat} {N : Nat} {Y Y' : zMu} {ν ν' : zNu} (f : frT Y Y' ν ν') : frW o Q N Y Y' ν ν' := ⟨fun r a _ c e => f.1 r a c e, f.2.1, fun i _ => by rw [f.1 109 (by decide) (by decide) (by decide)], fun r _ _ c _ => f.2.2 r c, fun i _ => by rw [f.2.2 107 (by decide), f.2.2 108 (by decide)]; exact ⟨rfl, rfl⟩⟩
theorem frW_v {o : Nat} {Q : Nat → Nat} {N : Nat} (Y : zMu) {ν ν' : zNu} (f : frV o Q N ν ν') : frW o Q N Y Y ν ν' := ⟨fun _ _ _ _ _ => rfl, fun _ _ _ => rfl, fun _ _ => rfl, fun r a b _ _ => f.1 r a b, f.2⟩
def SolM (o : Nat) (Q : Nat → Nat) (N : Nat) (ln : Nat → Ln) (m b : Nat) (Y : zMu) (ν : zNu) : Prop := ∀ p, p < N → Y 109 (o + Q p) = zi (fiF ln m b) ∧ ((SF ln m b).1 ≠ 0 → ν 107 (o + Q p) = zl ((SF ln m b).2.1 (Q p)) ∧ ν 108 (o + Q p) = zl ((SF ln m b).2.2 (Q p)))
section WO
variable {ln : Nat → Ln} {Q : Nat → Nat} {N o m b : Nat}
theorem wo_l (call : zC) (len : Nat) (ho : o ≤ 264) (hN : N ≤ 24) {F : Int} (hF : 0 ≤ F ∧ F ≤ 1000000000) (x1 : Int32) (ν : zNu) : ∀ c t : Nat, t + c = N → ∀ (Y : zMu) (v3 : Value), Y 92 31 = zi (N : Int) → (∀ p, p < N → Y 112 p = zi ((o + Q p : Nat) : Int) ∧ Q p < 24) → (∀ p, p < t → Y 109 (o + Q p) = zi (if 999999999 < F then 999999999 else F)) → ∃ Y', zE zc_X12_worksOut call 23 [.ref 92, .int x1, .long (zl F), v3, .int (zi (t : Int))] [] (zm len Y ν) = some (.null, zm len Y' ν) ∧ (∀ p, p < N → Y' 109 (o + Q p) = zi (if 999999999 < F then 999999999 else F)) ∧ (∀ r, r ≠ 109 → Y' r = Y r) ∧ ∀ i, (∀ p, p < N → i ≠ o + Q p) → Y' 109 i = Y 109 i := by
  intro c
  induction c with
  | zero =>
    intro t ht Y v3 e31 h112 hS
    have : t = N := by omega
    subst this
    refine ⟨Y, ?_, hS, fun _ _ => rfl, fun _ _ => rfl⟩
    rw [B_X12_worksOut_23]
    simp (disch := omega) only [e31, zbi_some, zbl_some, zbv_some, zbi_none, zbl_none, zbv_none, zbi_ite, zbl_ite, zbv_ite, zbZ, zbO, zc_lt, zc_le, zc_ge, zc_gt, zc_eq, zk0, zk1, zk2, zk3, zk4, zk5, zk6, zk7, zk8, zk9, zk10, zk11, zk12, zk14, zk15, zk16, zk17, zk19, zk20, zk21, zk24, zk25, zk30, zk32, zk36, zk40, zk45, zk50, zk64, zk97, zk99, zk100, zk102, zk122, zk128, zk255, zk800, zk801, zk900, zk999, zk1000, zk1997, zk9999, zk10000, zk100000, zk99999, zk9999999, zk999999999, zk2147483647, zlc0, zlc1, zlc2, zlc3, zlc4, zlc23, zlc99, zlc100, zlc9999999, zlc999999999999, zlc1073741824, zi_neg, zi_add, zi_sub, zi_mul, zl_neg, zl_add, zl_sub, zl_mul, zi_toInt, zi_nat, zi_le, zi_lt, zi_eq, zl_le, zl_lt, zl_eq, zl_toInt, zl_of32, zi_of64, zi_div, zl_div, zmodI, ↓reduceIte, zTle, zFle, zTlt, zFlt, zTeq, zFeq, if_true, if_false, and_self, and_true, true_and, and_false, false_and, or_self, or_true, true_or, or_false, false_or, not_true_eq_false, not_false_eq_true, zcastA, zcastL, znatC, zab, Int.reduceAdd, Int.reduceSub, Int.reduceMul, Int.reduceNeg, Int.reduceToNat, Nat.reduceAdd]
  | succ c ih =>
    intro t ht Y v3 e31 h112 hS
    obtain ⟨e112, q24⟩ := h112 t (by omega)
    have e112 : Y 112 t = zi ((o : Int) + (Q t : Int)) := e112
    have ix : ((o : Int) + (Q t : Int)).toNat = o + Q t := by omega
    obtain ⟨Y1, hY1⟩ : ∃ Y1, Y1 = zup Y 109 (o + Q t) (zi (if 999999999 < F then 999999999 else F)) := ⟨_, rfl⟩
    have r1 : ∀ r, r ≠ 109 → Y1 r = Y r := fun r hr => by rw [hY1, zup_ne _ _ _ hr]
    obtain ⟨Y2, B, B1, B2, B3⟩ := ih (t + 1) (by omega) Y1 (zclr v3) (by rw [r1 92 (by decide)]; exact e31) (fun p hp => by rw [r1 112 (by decide)]; exact h112 p hp) (fun p hp => by
      by_cases z : o + Q p = o + Q t
      · rw [z, hY1]
        simp (disch := omega) only [zup_at, upd_eq, upd_ne, ne_eq, Nat.reduceEqDiff, ↓reduceIte, if_true, if_false]
      · have : p ≠ t := fun q => z (by rw [q])
        rw [hY1]
        simp (disch := omega) only [zup_at, upd_eq, upd_ne, ne_eq, Nat.reduceEqDiff, ↓reduceIte, if_true, if_false]
        exact hS p (by omega))
    refine ⟨Y2, ?_, B1, fun r hr => by rw [B2 r hr, r1 r hr], fun i hi => ?_⟩
    · have z9 : (999999999 : Int64) = zl 999999999 := rfl
      rw [← B, hY1, B_X12_worksOut_23]
      by_cases q : 999999999 < F
      · rw [if_pos q]
        have q' : ¬ F ≤ 999999999 := by omega
        simp (disch := omega) only [e31, e112, z9, q', B_X12_worksOut_59, ix, zbi_some, zbl_some, zbv_some, zbi_none, zbl_none, zbv_none, zbi_ite, zbl_ite, zbv_ite, zbZ, zbO, zc_lt, zc_le, zc_ge, zc_gt, zc_eq, zk0, zk1, zk2, zk3, zk4, zk5, zk6, zk7, zk8, zk9, zk10, zk11, zk12, zk14, zk15, zk16, zk17, zk19, zk20, zk21, zk24, zk25, zk30, zk32, zk36, zk40, zk45, zk50, zk64, zk97, zk99, zk100, zk102, zk122, zk128, zk255, zk800, zk801, zk900, zk999, zk1000, zk1997, zk9999, zk10000, zk100000, zk99999, zk9999999, zk999999999, zk2147483647, zlc0, zlc1, zlc2, zlc3, zlc4, zlc23, zlc99, zlc100, zlc9999999, zlc999999999999, zlc1073741824, zi_neg, zi_add, zi_sub, zi_mul, zl_neg, zl_add, zl_sub, zl_mul, zi_toInt, zi_nat, zi_le, zi_lt, zi_eq, zl_le, zl_lt, zl_eq, zl_toInt, zl_of32, zi_of64, zi_div, zl_div, zmodI, ↓reduceIte, zTle, zFle, zTlt, zFlt, zTeq, zFeq, if_true, if_false, and_self, and_true, true_and, and_false, false_and, or_self, or_true, true_or, or_false, false_or, not_true_eq_false, not_false_eq_true, zcastA, zcastL, znatC, zab, Int.reduceAdd, Int.reduceSub, Int.reduceMul, Int.reduceNeg, Int.reduceToNat, Nat.reduceAdd]
      · rw [if_neg q]
        have q' : F ≤ 999999999 := by omega
        simp (disch := omega) only [e31, e112, z9, q', B_X12_worksOut_59, ix, zbi_some, zbl_some, zbv_some, zbi_none, zbl_none, zbv_none, zbi_ite, zbl_ite, zbv_ite, zbZ, zbO, zc_lt, zc_le, zc_ge, zc_gt, zc_eq, zk0, zk1, zk2, zk3, zk4, zk5, zk6, zk7, zk8, zk9, zk10, zk11, zk12, zk14, zk15, zk16, zk17, zk19, zk20, zk21, zk24, zk25, zk30, zk32, zk36, zk40, zk45, zk50, zk64, zk97, zk99, zk100, zk102, zk122, zk128, zk255, zk800, zk801, zk900, zk999, zk1000, zk1997, zk9999, zk10000, zk100000, zk99999, zk9999999, zk999999999, zk2147483647, zlc0, zlc1, zlc2, zlc3, zlc4, zlc23, zlc99, zlc100, zlc9999999, zlc999999999999, zlc1073741824, zi_neg, zi_add, zi_sub, zi_mul, zl_neg, zl_add, zl_sub, zl_mul, zi_toInt, zi_nat, zi_le, zi_lt, zi_eq, zl_le, zl_lt, zl_eq, zl_toInt, zl_of32, zi_of64, zi_div, zl_div, zmodI, ↓reduceIte, zTle, zFle, zTlt, zFlt, zTeq, zFeq, if_true, if_false, and_self, and_true, true_and, and_false, false_and, or_self, or_true, true_or, or_false, false_or, not_true_eq_false, not_false_eq_true, zcastA, zcastL, znatC, zab, Int.reduceAdd, Int.reduceSub, Int.reduceMul, Int.reduceNeg, Int.reduceToNat, Nat.reduceAdd]
    · have ne := hi t (by omega)
      rw [B3 i hi, hY1]
      simp (disch := omega) only [zup_at, upd_eq, upd_ne, ne_eq, Nat.reduceEqDiff, ↓reduceIte, if_true, if_false]
theorem F_wo0 (d len : Nat) (ho : o ≤ 264) (hN : N ≤ 24) (hV : LV ln m) (hm : m ≤ 24) (hB : BQ ln m b N Q) (hN0 : 0 < N) (hc : clF ln b m = 0) {Y : zMu} {ν : zNu} (hW : WP o Y ν ln Q N) : ∃ (Y' : zMu) (ν' : zNu), zF zT0 (d + 4) 218 [.ref 92, .int (zi 0)] (zm len Y ν) = some (.null, zm len Y' ν') ∧ SolM o Q N ln m b Y' ν' ∧ frW o Q N Y Y' ν ν' := by
  have hms := hV.2 b
  have e4 := hB.2.2.2.1
  obtain ⟨Y1, ν1, A, A1, A2⟩ := F_unk (d + 2) len ho hN (by rw [e4]; exact hms) hW
  rw [e4] at A1
  have hW1 := WP_t hW A2
  obtain ⟨ν2, B, B1, B2⟩ := F_opn (d + 2) len ho hN hV hB hc hW1 A1
  obtain ⟨q1, _⟩ := hB.1 0 hN0
  have s1 := (SF_open hV hc q1).1
  rw [← s1] at B
  have sb := SF_b hV hm b
  obtain ⟨Y3, C, C1, C2, C3⟩ := wo_l (Q := Q) (zF zT0 (d + 3)) len ho hN sb (zi 0) ν2 N 0 (by omega) Y1 zU hW1.1 (fun p hp => ⟨(hW1.2 p hp).1, (hW1.2 p hp).2.1⟩) (fun p hp => by omega)
  have C : zE zc_X12_worksOut (zF zT0 (d + 3)) 23 [.ref 92, .int (zi 0), .long (zl (SF ln m b).1), zU, .int (zi 0)] [] (zm len Y1 ν2) = _ := C
  have f3 : frW o Q N Y1 Y3 ν2 ν2 := ⟨fun r _ a _ _ => C2 r a, fun i _ _ => by rw [C2 92 (by decide)], C3, fun _ _ _ _ _ => rfl, fun _ _ => ⟨rfl, rfl⟩⟩
  refine ⟨Y3, ν2, ?_, fun p hp => ⟨C1 p hp, fun _ => B1 p hp⟩, frW_tr (frW_t A2) (frW_tr (frW_v Y1 B2) f3)⟩
  rw [B_X12_worksOut]
  simp (disch := omega) only [A, B_X12_worksOut_4, B, B_X12_worksOut_19, zbi_some, zbl_some, zbv_some, zbi_none, zbl_none, zbv_none, zbi_ite, zbl_ite, zbv_ite, zbZ, zbO, zc_lt, zc_le, zc_ge, zc_gt, zc_eq, zk0, zk1, zk2, zk3, zk4, zk5, zk6, zk7, zk8, zk9, zk10, zk11, zk12, zk14, zk15, zk16, zk17, zk19, zk20, zk21, zk24, zk25, zk30, zk32, zk36, zk40, zk45, zk50, zk64, zk97, zk99, zk100, zk102, zk122, zk128, zk255, zk800, zk801, zk900, zk999, zk1000, zk1997, zk9999, zk10000, zk100000, zk99999, zk9999999, zk999999999, zk2147483647, zlc0, zlc1, zlc2, zlc3, zlc4, zlc23, zlc99, zlc100, zlc9999999, zlc999999999999, zlc1073741824, zi_neg, zi_add, zi_sub, zi_mul, zl_neg, zl_add, zl_sub, zl_mul, zi_toInt, zi_nat, zi_le, zi_lt, zi_eq, zl_le, zl_lt, zl_eq, zl_toInt, zl_of32, zi_of64, zi_div, zl_div, zmodI, ↓reduceIte, zTle, zFle, zTlt, zFlt, zTeq, zFeq, if_true, if_false, and_self, and_true, true_and, and_false, false_and, or_self, or_true, true_or, or_false, false_or, not_true_eq_false, not_false_eq_true, zcastA, zcastL, znatC, zab, Int.reduceAdd, Int.reduceSub, Int.reduceMul, Int.reduceNeg, Int.reduceToNat, Nat.reduceAdd]
  exact C
end WO

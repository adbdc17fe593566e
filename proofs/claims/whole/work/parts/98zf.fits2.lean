/-! TABLET: a fill's sum and its notes, the model's -/
theorem sgF_add (s a c : Int) : sgF s (a + c) = sgF s a + sgF s c := by
  unfold sgF
  split <;> omega
theorem sgF_0 (s : Int) : sgF s 0 = 0 := by
  unfold sgF
  split <;> rfl
def tS (ln : Nat → Ln) (Q : Nat → Nat) (l c : Int) : Nat → Int
  | 0 => 0
  | t + 1 => tS ln Q l c t + sgF (ln (Q t)).1 (if l = (Q t : Int) then c else 0)
theorem tS_0 (ln : Nat → Ln) (Q : Nat → Nat) (l c : Int) : ∀ N : Nat, (∀ p, p < N → (Q p : Int) ≠ l) → tS ln Q l c N = 0
  | 0, _ => rfl
  | t + 1, h => by
    show tS ln Q l c t + sgF (ln (Q t)).1 (if l = (Q t : Int) then c else 0) = 0
    have := h t (by omega)
    rw [tS_0 ln Q l c t (fun p hp => h p (by omega)), if_neg (show ¬ l = (Q t : Int) from fun q => this q.symm), sgF_0]
    rfl
theorem tS_1 (ln : Nat → Ln) (Q : Nat → Nat) (i : Nat) (c : Int) : ∀ N : Nat, (∀ p q, p < q → q < N → Q p < Q q) → (∃ p, p < N ∧ Q p = i) → tS ln Q (i : Int) c N = sgF (ln i).1 c
  | 0, _, h => by
    obtain ⟨p, hp, _⟩ := h
    omega
  | t + 1, hQ, h => by
    show tS ln Q (i : Int) c t + sgF (ln (Q t)).1 (if (i : Int) = (Q t : Int) then c else 0) = _
    by_cases z : Q t = i
    · rw [tS_0 ln Q (i : Int) c t (fun p hp => by have := hQ p t hp (by omega); omega), z, if_pos rfl, Int.zero_add]
    · rw [if_neg (show ¬ (i : Int) = (Q t : Int) by omega), sgF_0, Int.add_zero]
      refine tS_1 ln Q i c t (fun p q a e => hQ p q a (by omega)) ?_
      obtain ⟨p, hp, hq⟩ := h
      refine ⟨p, ?_, hq⟩
      by_cases w : p = t
      · rw [w] at hq
        exact absurd hq z
      · omega
section F2
variable {ln : Nat → Ln} {Q : Nat → Nat} {N o m b : Nat}
theorem tV_s (x y : Int) : ∀ N : Nat, tV ln Q (fun p => vlM ln m b (Q p : Int) x y) N = tqP ln Q N + tS ln Q (mL (mkF ln b m) 0) (mU (mkF ln b m) 0 * x) N + tS ln Q (mL (mkF ln b m) 1) (mU (mkF ln b m) 1 * y) N
  | 0 => rfl
  | t + 1 => by
    have a := tV_s x y t
    show tV ln Q (fun p => vlM ln m b (Q p : Int) x y) t + sgF (ln (Q t)).1 ((ln (Q t)).2.2.2.1 + (if mL (mkF ln b m) 0 = (Q t : Int) then mU (mkF ln b m) 0 * x else 0) + (if mL (mkF ln b m) 1 = (Q t : Int) then mU (mkF ln b m) 1 * y else 0)) = (tqP ln Q t + sgF (ln (Q t)).1 (ln (Q t)).2.2.2.1) + (tS ln Q (mL (mkF ln b m) 0) (mU (mkF ln b m) 0 * x) t + sgF (ln (Q t)).1 (if mL (mkF ln b m) 0 = (Q t : Int) then mU (mkF ln b m) 0 * x else 0)) + (tS ln Q (mL (mkF ln b m) 1) (mU (mkF ln b m) 1 * y) t + sgF (ln (Q t)).1 (if mL (mkF ln b m) 1 = (Q t : Int) then mU (mkF ln b m) 1 * y else 0))
    rw [a, sgF_add, sgF_add]
    omega
theorem tV_due (hV : LV ln m) (hB : BQ ln m b N Q) (x y : Int) : tV ln Q (fun p => vlM ln m b (Q p : Int) x y) N = dueT ln m b x y := by
  obtain ⟨h1, h2, h3, h4, h5, h6, h7, h8⟩ := hB
  have e : ∀ j z, tS ln Q (mL (mkF ln b m) j) (mU (mkF ln b m) j * z) N = sgM ln m b j z := fun j z => by
    unfold sgM
    rcases mk_r hV b j with ⟨a, _, _⟩ | ⟨i, a, hi, hib, _, _, _⟩
    · rw [if_pos a]
      exact tS_0 ln Q _ _ N (fun p _ => by omega)
    · rw [if_neg (show ¬ mL (mkF ln b m) j = -1 by omega), a]
      exact tS_1 ln Q i _ N h2 (h3 i hi hib)
  rw [tV_s, e, e, h7]
  rfl
theorem ft_3 (d len : Nat) (ho : o ≤ 264) (hN : N ≤ 24) {Y : zMu} {ν : zNu} (hW : WP o Y ν ln Q N) (V : Nat → Int) (hV : ∀ p, p < N → ν 116 p = zl (V p)) (x1 x2 x3 : Int32) (v7 : Value) : ∀ c t : Nat, t + c = N → ∀ v5 : Value, ∃ w5 : Value, zE zc_X12_fits (zF zT0 (d + 1)) 115 [.ref 92, .int x1, .int x2, .int x3, .long (zl (tV ln Q V t)), v5, .int (zi (t : Int)), v7] [] (zm len Y ν) = zE zc_X12_fits (zF zT0 (d + 1)) 115 [.ref 92, .int x1, .int x2, .int x3, .long (zl (tV ln Q V N)), w5, .int (zi (N : Int)), v7] [] (zm len Y ν) := by
  intro c
  induction c with
  | zero =>
    intro t ht v5
    have : t = N := by omega
    subst this
    exact ⟨v5, rfl⟩
  | succ c ih =>
    intro t ht v5
    have e31 := hW.1
    obtain ⟨e112, q24, hv, hM⟩ := hW.2 t (by omega)
    have e112 : Y 112 t = zi ((o : Int) + (Q t : Int)) := e112
    have G := F_sgo (ln := ln) d len ν ho q24 hM.1 hv.1
    have v := hV t (by omega)
    obtain ⟨w5, B⟩ := ih (t + 1) (by omega) zU
    refine ⟨w5, ?_⟩
    rw [← B, B_X12_fits_115]
    show _ = zE zc_X12_fits (zF zT0 (d + 1)) 115 [.ref 92, .int x1, .int x2, .int x3, .long (zl (tV ln Q V t + sgF (ln (Q t)).1 (V t))), zU, .int (zi ((t : Int) + 1)), v7] [] (zm len Y ν)
    rw [← sg_m]
    by_cases z : (ln (Q t)).1 = 0
    · rw [if_pos z] at G ⊢
      simp (disch := omega) only [e31, e112, G, B_X12_fits_137, v, zbi_some, zbl_some, zbv_some, zbi_none, zbl_none, zbv_none, zbi_ite, zbl_ite, zbv_ite, zbZ, zbO, zc_lt, zc_le, zc_ge, zc_gt, zc_eq, zk0, zk1, zk2, zk3, zk4, zk5, zk6, zk7, zk8, zk9, zk10, zk11, zk12, zk14, zk15, zk16, zk17, zk19, zk20, zk21, zk24, zk25, zk30, zk32, zk36, zk40, zk45, zk50, zk64, zk97, zk99, zk100, zk102, zk122, zk128, zk255, zk800, zk801, zk900, zk999, zk1000, zk1997, zk9999, zk10000, zk100000, zk99999, zk9999999, zk999999999, zk2147483647, zlc0, zlc1, zlc2, zlc3, zlc4, zlc23, zlc99, zlc100, zlc9999999, zlc999999999999, zlc1073741824, zi_neg, zi_add, zi_sub, zi_mul, zl_neg, zl_add, zl_sub, zl_mul, zi_toInt, zi_nat, zi_le, zi_lt, zi_eq, zl_le, zl_lt, zl_eq, zl_toInt, zl_of32, zi_of64, zi_div, zl_div, zmodI, ↓reduceIte, zTle, zFle, zTlt, zFlt, zTeq, zFeq, if_true, if_false, and_self, and_true, true_and, and_false, false_and, or_self, or_true, true_or, or_false, false_or, not_true_eq_false, not_false_eq_true, zcastA, zcastL, znatC, zab, Int.reduceAdd, Int.reduceSub, Int.reduceMul, Int.reduceNeg, Int.reduceToNat, Nat.reduceAdd]
    · rw [if_neg z] at G ⊢
      simp (disch := omega) only [e31, e112, G, B_X12_fits_137, v, zbi_some, zbl_some, zbv_some, zbi_none, zbl_none, zbv_none, zbi_ite, zbl_ite, zbv_ite, zbZ, zbO, zc_lt, zc_le, zc_ge, zc_gt, zc_eq, zk0, zk1, zk2, zk3, zk4, zk5, zk6, zk7, zk8, zk9, zk10, zk11, zk12, zk14, zk15, zk16, zk17, zk19, zk20, zk21, zk24, zk25, zk30, zk32, zk36, zk40, zk45, zk50, zk64, zk97, zk99, zk100, zk102, zk122, zk128, zk255, zk800, zk801, zk900, zk999, zk1000, zk1997, zk9999, zk10000, zk100000, zk99999, zk9999999, zk999999999, zk2147483647, zlc0, zlc1, zlc2, zlc3, zlc4, zlc23, zlc99, zlc100, zlc9999999, zlc999999999999, zlc1073741824, zi_neg, zi_add, zi_sub, zi_mul, zl_neg, zl_add, zl_sub, zl_mul, zi_toInt, zi_nat, zi_le, zi_lt, zi_eq, zl_le, zl_lt, zl_eq, zl_toInt, zl_of32, zi_of64, zi_div, zl_div, zmodI, ↓reduceIte, zTle, zFle, zTlt, zFlt, zTeq, zFeq, if_true, if_false, and_self, and_true, true_and, and_false, false_and, or_self, or_true, true_or, or_false, false_or, not_true_eq_false, not_false_eq_true, zcastA, zcastL, znatC, zab, Int.reduceAdd, Int.reduceSub, Int.reduceMul, Int.reduceNeg, Int.reduceToNat, Nat.reduceAdd]
/-- a fill noted -/
theorem nt_l (call : zC) (len : Nat) (ho : o ≤ 264) (hN : N ≤ 24) (hQ : ∀ p q, p < q → q < N → Q p < Q q) {Y : zMu} (V A B : Nat → Int) (hV : ∀ p, p < N → 0 ≤ V p ∧ V p ≤ 2000000000) (hA : ∀ p, p < N → -1 ≤ A p ∧ A p ≤ 1000000000000) (hB : ∀ p, p < N → -1 ≤ B p ∧ B p ≤ 1000000000000) (e31 : Y 92 31 = zi (N : Int)) (e112 : ∀ p, p < N → Y 112 p = zi ((o + Q p : Nat) : Int) ∧ Q p < 24) : ∀ c t : Nat, t + c = N → ∀ (ν : zNu) (v2 : Value), (∀ p, p < N → ν 116 p = zl (V p)) → (∀ p, p < t → ν 107 (o + Q p) = zl (if V p < A p then V p else A p) ∧ ν 108 (o + Q p) = zl (if B p < V p then V p else B p)) → (∀ p, t ≤ p → p < N → ν 107 (o + Q p) = zl (A p) ∧ ν 108 (o + Q p) = zl (B p)) → ∃ ν', zE zc_X12_notes call 2 [.ref 92, .int (zi (t : Int)), v2] [] (zm len Y ν) = some (.null, zm len Y ν') ∧ (∀ p, p < N → ν' 107 (o + Q p) = zl (if V p < A p then V p else A p) ∧ ν' 108 (o + Q p) = zl (if B p < V p then V p else B p)) ∧ frV o Q N ν ν' := by
  intro c
  induction c with
  | zero =>
    intro t ht ν v2 _ h1 _
    have : t = N := by omega
    subst this
    refine ⟨ν, ?_, h1, frV_rf o Q t ν⟩
    rw [B_X12_notes_2]
    simp (disch := omega) only [e31, zbi_some, zbl_some, zbv_some, zbi_none, zbl_none, zbv_none, zbi_ite, zbl_ite, zbv_ite, zbZ, zbO, zc_lt, zc_le, zc_ge, zc_gt, zc_eq, zk0, zk1, zk2, zk3, zk4, zk5, zk6, zk7, zk8, zk9, zk10, zk11, zk12, zk14, zk15, zk16, zk17, zk19, zk20, zk21, zk24, zk25, zk30, zk32, zk36, zk40, zk45, zk50, zk64, zk97, zk99, zk100, zk102, zk122, zk128, zk255, zk800, zk801, zk900, zk999, zk1000, zk1997, zk9999, zk10000, zk100000, zk99999, zk9999999, zk999999999, zk2147483647, zlc0, zlc1, zlc2, zlc3, zlc4, zlc23, zlc99, zlc100, zlc9999999, zlc999999999999, zlc1073741824, zi_neg, zi_add, zi_sub, zi_mul, zl_neg, zl_add, zl_sub, zl_mul, zi_toInt, zi_nat, zi_le, zi_lt, zi_eq, zl_le, zl_lt, zl_eq, zl_toInt, zl_of32, zi_of64, zi_div, zl_div, zmodI, ↓reduceIte, zTle, zFle, zTlt, zFlt, zTeq, zFeq, if_true, if_false, and_self, and_true, true_and, and_false, false_and, or_self, or_true, true_or, or_false, false_or, not_true_eq_false, not_false_eq_true, zcastA, zcastL, znatC, zab, Int.reduceAdd, Int.reduceSub, Int.reduceMul, Int.reduceNeg, Int.reduceToNat, Nat.reduceAdd]
  | succ c ih =>
    intro t ht ν v2 h0 h1 h2
    obtain ⟨f112, q24⟩ := e112 t (by omega)
    have f112 : Y 112 t = zi ((o : Int) + (Q t : Int)) := f112
    have ix : ((o : Int) + (Q t : Int)).toNat = o + Q t := by omega
    have v := h0 t (by omega)
    obtain ⟨a1, a2⟩ := h2 t (Nat.le_refl t) (by omega)
    have vb := hV t (by omega)
    have ab := hA t (by omega)
    have bb := hB t (by omega)
    obtain ⟨ν1, hν1⟩ : ∃ ν1, ν1 = zupl (zupl ν 107 (o + Q t) (zl (if V t < A t then V t else A t))) 108 (o + Q t) (zl (if B t < V t then V t else B t)) := ⟨_, rfl⟩
    have f1 : frV o Q N ν ν1 := by
      rw [hν1]
      refine ⟨fun r a e => by rw [zupl_nx e, zupl_nx a], fun i hi => ?_⟩
      have ne := hi t (by omega)
      rw [zupl_j ne, zupl_j ne, zupl_j ne, zupl_j ne]
      exact ⟨rfl, rfl⟩
    have ot : ∀ p, p < N → p ≠ t → ν1 107 (o + Q p) = ν 107 (o + Q p) ∧ ν1 108 (o + Q p) = ν 108 (o + Q p) := fun p hp hne => by
      have ne : Q p ≠ Q t := by
        rcases Nat.lt_or_ge p t with w | w
        · have := hQ p t w (by omega)
          omega
        · have := hQ t p (by omega) hp
          omega
      have ne2 : o + Q p ≠ o + Q t := by omega
      rw [hν1, zupl_j ne2, zupl_j ne2, zupl_j ne2, zupl_j ne2]
      exact ⟨rfl, rfl⟩
    obtain ⟨ν2, C, C1, C2⟩ := ih (t + 1) (by omega) ν1 (.int (zi ((o : Int) + (Q t : Int)))) (fun p hp => by rw [f1.1 116 (by decide) (by decide)]; exact h0 p hp) (fun p hp => by
      by_cases z : p = t
      · subst z
        rw [hν1, zupl_nx (show (107 : Nat) ≠ 108 by decide), zupl_ss, zupl_ss]
        exact ⟨rfl, rfl⟩
      · rw [(ot p (by omega) z).1, (ot p (by omega) z).2]
        exact h1 p (by omega)) (fun p hp hp2 => by
      rw [(ot p hp2 (by omega)).1, (ot p hp2 (by omega)).2]
      exact h2 p (by omega) hp2)
    refine ⟨ν2, ?_, C1, frV_tr f1 C2⟩
    have same : ∀ r i, zupl ν r i (ν r i) = ν := fun r i => by
      funext a j
      rw [zupl_at]
      by_cases z : a = r ∧ j = i
      · rw [if_pos z, z.1, z.2]
      · rw [if_neg z]
    rw [← C, hν1, B_X12_notes_2]
    by_cases c1 : V t < A t
    · have c1' : ¬ A t ≤ V t := by omega
      rw [if_pos c1]
      by_cases c2 : B t < V t
      · have c2' : ¬ V t ≤ B t := by omega
        rw [if_pos c2]
        simp (disch := omega) only [e31, f112, ix, v, a1, a2, c1', c2', B_X12_notes_45, B_X12_notes_73, zupl_nx, zbi_some, zbl_some, zbv_some, zbi_none, zbl_none, zbv_none, zbi_ite, zbl_ite, zbv_ite, zbZ, zbO, zc_lt, zc_le, zc_ge, zc_gt, zc_eq, zk0, zk1, zk2, zk3, zk4, zk5, zk6, zk7, zk8, zk9, zk10, zk11, zk12, zk14, zk15, zk16, zk17, zk19, zk20, zk21, zk24, zk25, zk30, zk32, zk36, zk40, zk45, zk50, zk64, zk97, zk99, zk100, zk102, zk122, zk128, zk255, zk800, zk801, zk900, zk999, zk1000, zk1997, zk9999, zk10000, zk100000, zk99999, zk9999999, zk999999999, zk2147483647, zlc0, zlc1, zlc2, zlc3, zlc4, zlc23, zlc99, zlc100, zlc9999999, zlc999999999999, zlc1073741824, zi_neg, zi_add, zi_sub, zi_mul, zl_neg, zl_add, zl_sub, zl_mul, zi_toInt, zi_nat, zi_le, zi_lt, zi_eq, zl_le, zl_lt, zl_eq, zl_toInt, zl_of32, zi_of64, zi_div, zl_div, zmodI, ↓reduceIte, zTle, zFle, zTlt, zFlt, zTeq, zFeq, if_true, if_false, and_self, and_true, true_and, and_false, false_and, or_self, or_true, true_or, or_false, false_or, not_true_eq_false, not_false_eq_true, zcastA, zcastL, znatC, zab, Int.reduceAdd, Int.reduceSub, Int.reduceMul, Int.reduceNeg, Int.reduceToNat, Nat.reduceAdd]
      · have c2' : V t ≤ B t := by omega
        have s2 : zupl (zupl ν 107 (o + Q t) (zl (V t))) 108 (o + Q t) (zl (B t)) = zupl ν 107 (o + Q t) (zl (V t)) := by
          funext a j
          rw [zupl_at]
          by_cases z : a = 108 ∧ j = o + Q t
          · rw [if_pos z, z.1, z.2, zupl_nx (show (108 : Nat) ≠ 107 by decide), a2]
          · rw [if_neg z]
        rw [if_neg c2, s2]
        simp (disch := omega) only [e31, f112, ix, v, a1, a2, c1', c2', B_X12_notes_45, B_X12_notes_73, zupl_nx, zbi_some, zbl_some, zbv_some, zbi_none, zbl_none, zbv_none, zbi_ite, zbl_ite, zbv_ite, zbZ, zbO, zc_lt, zc_le, zc_ge, zc_gt, zc_eq, zk0, zk1, zk2, zk3, zk4, zk5, zk6, zk7, zk8, zk9, zk10, zk11, zk12, zk14, zk15, zk16, zk17, zk19, zk20, zk21, zk24, zk25, zk30, zk32, zk36, zk40, zk45, zk50, zk64, zk97, zk99, zk100, zk102, zk122, zk128, zk255, zk800, zk801, zk900, zk999, zk1000, zk1997, zk9999, zk10000, zk100000, zk99999, zk9999999, zk999999999, zk2147483647, zlc0, zlc1, zlc2, zlc3, zlc4, zlc23, zlc99, zlc100, zlc9999999, zlc999999999999, zlc1073741824, zi_neg, zi_add, zi_sub, zi_mul, zl_neg, zl_add, zl_sub, zl_mul, zi_toInt, zi_nat, zi_le, zi_lt, zi_eq, zl_le, zl_lt, zl_eq, zl_toInt, zl_of32, zi_of64, zi_div, zl_div, zmodI, ↓reduceIte, zTle, zFle, zTlt, zFlt, zTeq, zFeq, if_true, if_false, and_self, and_true, true_and, and_false, false_and, or_self, or_true, true_or, or_false, false_or, not_true_eq_false, not_false_eq_true, zcastA, zcastL, znatC, zab, Int.reduceAdd, Int.reduceSub, Int.reduceMul, Int.reduceNeg, Int.reduceToNat, Nat.reduceAdd]
    · have c1' : A t ≤ V t := by omega
      have s1 : zupl ν 107 (o + Q t) (zl (A t)) = ν := by rw [← a1]; exact same 107 (o + Q t)
      rw [if_neg c1, s1]
      by_cases c2 : B t < V t
      · have c2' : ¬ V t ≤ B t := by omega
        rw [if_pos c2]
        simp (disch := omega) only [e31, f112, ix, v, a1, a2, c1', c2', B_X12_notes_45, B_X12_notes_73, zbi_some, zbl_some, zbv_some, zbi_none, zbl_none, zbv_none, zbi_ite, zbl_ite, zbv_ite, zbZ, zbO, zc_lt, zc_le, zc_ge, zc_gt, zc_eq, zk0, zk1, zk2, zk3, zk4, zk5, zk6, zk7, zk8, zk9, zk10, zk11, zk12, zk14, zk15, zk16, zk17, zk19, zk20, zk21, zk24, zk25, zk30, zk32, zk36, zk40, zk45, zk50, zk64, zk97, zk99, zk100, zk102, zk122, zk128, zk255, zk800, zk801, zk900, zk999, zk1000, zk1997, zk9999, zk10000, zk100000, zk99999, zk9999999, zk999999999, zk2147483647, zlc0, zlc1, zlc2, zlc3, zlc4, zlc23, zlc99, zlc100, zlc9999999, zlc999999999999, zlc1073741824, zi_neg, zi_add, zi_sub, zi_mul, zl_neg, zl_add, zl_sub, zl_mul, zi_toInt, zi_nat, zi_le, zi_lt, zi_eq, zl_le, zl_lt, zl_eq, zl_toInt, zl_of32, zi_of64, zi_div, zl_div, zmodI, ↓reduceIte, zTle, zFle, zTlt, zFlt, zTeq, zFeq, if_true, if_false, and_self, and_true, true_and, and_false, false_and, or_self, or_true, true_or, or_false, false_or, not_true_eq_false, not_false_eq_true, zcastA, zcastL, znatC, zab, Int.reduceAdd, Int.reduceSub, Int.reduceMul, Int.reduceNeg, Int.reduceToNat, Nat.reduceAdd]
      · have c2' : V t ≤ B t := by omega
        have s2 : zupl ν 108 (o + Q t) (zl (B t)) = ν := by rw [← a2]; exact same 108 (o + Q t)
        rw [if_neg c2, s2]
        simp (disch := omega) only [e31, f112, ix, v, a1, a2, c1', c2', B_X12_notes_45, B_X12_notes_73, zbi_some, zbl_some, zbv_some, zbi_none, zbl_none, zbv_none, zbi_ite, zbl_ite, zbv_ite, zbZ, zbO, zc_lt, zc_le, zc_ge, zc_gt, zc_eq, zk0, zk1, zk2, zk3, zk4, zk5, zk6, zk7, zk8, zk9, zk10, zk11, zk12, zk14, zk15, zk16, zk17, zk19, zk20, zk21, zk24, zk25, zk30, zk32, zk36, zk40, zk45, zk50, zk64, zk97, zk99, zk100, zk102, zk122, zk128, zk255, zk800, zk801, zk900, zk999, zk1000, zk1997, zk9999, zk10000, zk100000, zk99999, zk9999999, zk999999999, zk2147483647, zlc0, zlc1, zlc2, zlc3, zlc4, zlc23, zlc99, zlc100, zlc9999999, zlc999999999999, zlc1073741824, zi_neg, zi_add, zi_sub, zi_mul, zl_neg, zl_add, zl_sub, zl_mul, zi_toInt, zi_nat, zi_le, zi_lt, zi_eq, zl_le, zl_lt, zl_eq, zl_toInt, zl_of32, zi_of64, zi_div, zl_div, zmodI, ↓reduceIte, zTle, zFle, zTlt, zFlt, zTeq, zFeq, if_true, if_false, and_self, and_true, true_and, and_false, false_and, or_self, or_true, true_or, or_false, false_or, not_true_eq_false, not_false_eq_true, zcastA, zcastL, znatC, zab, Int.reduceAdd, Int.reduceSub, Int.reduceMul, Int.reduceNeg, Int.reduceToNat, Nat.reduceAdd]
end F2

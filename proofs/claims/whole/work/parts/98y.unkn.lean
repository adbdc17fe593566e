/-! TABLET: the model's unknowns of a BLOCK -/
def WP (o : Nat) (Y : zMu) (ν : zNu) (ln : Nat → Ln) (Q : Nat → Nat) (N : Nat) : Prop := Y 92 31 = zi (N : Int) ∧ ∀ p, p < N → Y 112 p = zi ((o + Q p : Nat) : Int) ∧ Q p < 24 ∧ LnV (ln (Q p)) ∧ MlinO o Y ν ln (Q p)
def TU (Q : Nat → Nat) (N : Nat) (ms : List (Nat × Int × Int)) (lp : Int) (Y : zMu) (ν : zNu) : Prop := Y 92 35 = zi (ms.length : Int) ∧ Y 92 36 = zi lp ∧ ∀ x q, ms[x]? = some q → (∃ p : Nat, p < N ∧ Y 113 x = zi (p : Int) ∧ Q p = q.1) ∧ ν 114 x = zl q.2.1 ∧ Y 115 x = zi q.2.2
def frT (Y Y' : zMu) (ν ν' : zNu) : Prop := (∀ r, r ≠ 92 → r ≠ 113 → r ≠ 115 → Y' r = Y r) ∧ (∀ i, i ≠ 35 → i ≠ 36 → Y' 92 i = Y 92 i) ∧ ∀ r, r ≠ 114 → ν' r = ν r
theorem frT_rf (Y : zMu) (ν : zNu) : frT Y Y ν ν := ⟨fun _ _ _ _ => rfl, fun _ _ _ => rfl, fun _ _ => rfl⟩
theorem frT_tr {Y Y' Y'' : zMu} {ν ν' ν'' : zNu} (h : frT Y Y' ν ν') (h2 : frT Y' Y'' ν' ν'') : frT Y Y'' ν ν'' := ⟨fun r a b c => by rw [h2.1 r a b c, h.1 r a b c], fun i a b => by rw [h2.2.1 i a b, h.2.1 i a b], fun r a => by rw [h2.2.2 r a, h.2.2 r a]⟩
theorem MlinO_t {o : Nat} {Y Y' : zMu} {ν ν' : zNu} {ln : Nat → Ln} {i : Nat} (h : MlinO o Y ν ln i) (f : frT Y Y' ν ν') : MlinO o Y' ν' ln i := by
  unfold MlinO
  rw [f.1 100 (by decide) (by decide) (by decide), f.1 101 (by decide) (by decide) (by decide), f.1 103 (by decide) (by decide) (by decide), f.1 104 (by decide) (by decide) (by decide), f.1 106 (by decide) (by decide) (by decide), f.2.2 102 (by decide), f.2.2 105 (by decide)]
  exact h
theorem WP_t {o N : Nat} {Y Y' : zMu} {ν ν' : zNu} {ln : Nat → Ln} {Q : Nat → Nat} (h : WP o Y ν ln Q N) (f : frT Y Y' ν ν') : WP o Y' ν' ln Q N := ⟨by rw [f.2.1 31 (by decide) (by decide)]; exact h.1, fun p hp => by
  obtain ⟨a, b, c, e⟩ := h.2 p hp
  exact ⟨by rw [f.1 112 (by decide) (by decide) (by decide)]; exact a, b, c, MlinO_t e f⟩⟩
section UK
variable {ln : Nat → Ln} {Q : Nat → Nat} {N o : Nat}
theorem tu_in (call : zC) (len : Nat) (ho : o ≤ 264) (hN : N ≤ 24) {t : Nat} (ht : t < N) (lp : Int) (ms : List (Nat × Int × Int)) : ∀ (suf pre : List (Int × Int)), (ln (Q t)).2.2.2.2 = pre ++ suf → ms.length + (ln (Q t)).2.2.2.2.length ≤ 2 → ∀ (Y : zMu) (ν : zNu), WP o Y ν ln Q N → TU Q N (ms ++ pre.map (fun p => (Q t, p))) lp Y ν → ∃ (Y' : zMu) (ν' : zNu), zE zc_X12_takesUnknowns call 43 [.ref 92, .int (zi (t : Int)), .int (zi ((o + Q t : Nat) : Int)), .int (zi (pre.length : Int))] [] (zm len Y ν) = zE zc_X12_takesUnknowns call 12 [.ref 92, .int (zi ((t + 1 : Nat) : Int)), .int (zi ((o + Q t : Nat) : Int)), .int (zi ((ln (Q t)).2.2.2.2.length : Int))] [] (zm len Y' ν') ∧ TU Q N (ms ++ (ln (Q t)).2.2.2.2.map (fun p => (Q t, p))) lp Y' ν' ∧ frT Y Y' ν ν' := by
  intro suf
  induction suf with
  | nil =>
    intro pre he hl Y ν hW hT
    rw [List.append_nil] at he
    obtain ⟨_, q24, _, hM⟩ := hW.2 t ht
    have e104 := hM.2.2.2.2.1
    have ix : ((o : Int) + (Q t : Int)).toNat = o + Q t := by omega
    rw [he] at hl e104 ⊢
    refine ⟨Y, ν, ?_, hT, frT_rf Y ν⟩
    rw [B_X12_takesUnknowns_43]
    simp (disch := omega) only [ix, e104, zbi_some, zbl_some, zbv_some, zbi_none, zbl_none, zbv_none, zbi_ite, zbl_ite, zbv_ite, zbZ, zbO, zc_lt, zc_le, zc_ge, zc_gt, zc_eq, zk0, zk1, zk2, zk3, zk4, zk5, zk6, zk7, zk8, zk9, zk10, zk11, zk12, zk14, zk15, zk16, zk17, zk19, zk20, zk21, zk24, zk25, zk30, zk32, zk36, zk40, zk45, zk50, zk64, zk97, zk99, zk100, zk102, zk122, zk128, zk255, zk800, zk801, zk900, zk999, zk1000, zk1997, zk9999, zk10000, zk100000, zk99999, zk9999999, zk999999999, zk2147483647, zlc0, zlc1, zlc2, zlc3, zlc4, zlc23, zlc99, zlc100, zlc9999999, zlc999999999999, zlc1073741824, zi_neg, zi_add, zi_sub, zi_mul, zl_neg, zl_add, zl_sub, zl_mul, zi_toInt, zi_nat, zi_le, zi_lt, zi_eq, zl_le, zl_lt, zl_eq, zl_toInt, zl_of32, zi_of64, zi_div, zl_div, zmodI, ↓reduceIte, zTle, zFle, zTlt, zFlt, zTeq, zFeq, if_true, if_false, and_self, and_true, true_and, and_false, false_and, or_self, or_true, true_or, or_false, false_or, not_true_eq_false, not_false_eq_true, zcastA, zcastL, znatC, zab, Int.reduceAdd, Int.reduceSub, Int.reduceMul, Int.reduceNeg, Int.reduceToNat, Nat.reduceAdd]
  | cons p suf ih =>
    intro pre he hl Y ν hW hT
    obtain ⟨_, q24, _, hM⟩ := hW.2 t ht
    obtain ⟨_, _, _, _, e104, em⟩ := hM
    have pl : pre.length < (ln (Q t)).2.2.2.2.length := by rw [he, List.length_append]; show pre.length < pre.length + (suf.length + 1); omega
    have g1 : (ln (Q t)).2.2.2.2[pre.length]? = some p := by rw [he, List.getElem?_append, if_neg (by omega), Nat.sub_self]; rfl
    obtain ⟨e105, e106⟩ := em pre.length p g1
    obtain ⟨t35, t36, tm⟩ := hT
    have ll : (ms ++ pre.map (fun p => (Q t, p))).length = ms.length + pre.length := by rw [List.length_append, List.length_map]
    obtain ⟨c, hc⟩ : ∃ c, c = ms.length + pre.length := ⟨_, rfl⟩
    rw [ll, ← hc] at t35
    have c2 : c < 2 := by omega
    obtain ⟨ml, hml⟩ : ∃ ml, ml = (ln (Q t)).2.2.2.2.length := ⟨_, rfl⟩
    rw [← hml] at e104 pl hl
    have ix : ((o : Int) + (Q t : Int)).toNat = o + Q t := by omega
    have iy : (3 * ((o : Int) + (Q t : Int)) + (pre.length : Int)).toNat = 3 * (o + Q t) + pre.length := by omega
    obtain ⟨Y1, hY1⟩ : ∃ Y1, Y1 = zup (zup (zup Y 113 c (zi (t : Int))) 115 c (zi p.2)) 92 35 (zi ((c : Int) + 1)) := ⟨_, rfl⟩
    obtain ⟨ν1, hν1⟩ : ∃ ν1, ν1 = zupl ν 114 c (zl p.1) := ⟨_, rfl⟩
    have f1 : frT Y Y1 ν ν1 := by
      rw [hY1, hν1]
      refine ⟨fun r a b c => by rw [zup_ne _ _ _ a, zup_ne _ _ _ c, zup_ne _ _ _ b], fun i a b => ?_, fun r a => zupl_nx a⟩
      simp (disch := omega) only [zup_at, upd_eq, upd_ne, ne_eq, Nat.reduceEqDiff, ↓reduceIte, if_true, if_false]
    have T1 : TU Q N (ms ++ (pre ++ [p]).map (fun p => (Q t, p))) lp Y1 ν1 := by
      have em : ms ++ (pre ++ [p]).map (fun p => (Q t, p)) = (ms ++ pre.map (fun p => (Q t, p))) ++ [(Q t, p)] := by
        rw [List.map_append, List.append_assoc]
        rfl
      rw [em]
      refine ⟨?_, ?_, fun x q hq => ?_⟩
      · rw [List.length_append, ll, ← hc, hY1]
        simp (disch := omega) only [zup_at, upd_eq, upd_ne, ne_eq, Nat.reduceEqDiff, ↓reduceIte, if_true, if_false]
        rfl
      · rw [hY1]; simp (disch := omega) only [zup_at, upd_eq, upd_ne, ne_eq, Nat.reduceEqDiff, ↓reduceIte, if_true, if_false]; exact t36
      · rw [get_app, ll, ← hc] at hq
        by_cases z : x = c
        · rw [if_pos z] at hq
          cases hq
          subst z
          refine ⟨⟨t, ht, ?_, rfl⟩, ?_, ?_⟩
          · rw [hY1]; simp (disch := omega) only [zup_at, upd_eq, upd_ne, ne_eq, Nat.reduceEqDiff, ↓reduceIte, if_true, if_false]
          · rw [hν1, zupl_ss]
          · rw [hY1]; simp (disch := omega) only [zup_at, upd_eq, upd_ne, ne_eq, Nat.reduceEqDiff, ↓reduceIte, if_true, if_false]
        · rw [if_neg z] at hq
          obtain ⟨⟨y, y1, y2, y3⟩, y4, y5⟩ := tm x q hq
          refine ⟨⟨y, y1, ?_, y3⟩, ?_, ?_⟩
          · rw [hY1]; simp (disch := omega) only [zup_at, upd_eq, upd_ne, ne_eq, Nat.reduceEqDiff, ↓reduceIte, if_true, if_false]; exact y2
          · rw [hν1, zupl_j z]; exact y4
          · rw [hY1]; simp (disch := omega) only [zup_at, upd_eq, upd_ne, ne_eq, Nat.reduceEqDiff, ↓reduceIte, if_true, if_false]; exact y5
    obtain ⟨Y2, ν2, B, B1, B2⟩ := ih (pre ++ [p]) (by rw [he, List.append_assoc]; rfl) (by rw [← hml]; exact hl) Y1 ν1 (WP_t hW f1) T1
    refine ⟨Y2, ν2, ?_, B1, frT_tr f1 B2⟩
    rw [← B, B_X12_takesUnknowns_43, hY1, hν1, List.length_append]
    simp (disch := omega) only [ix, iy, e104, t35, e105, e106, zbi_some, zbl_some, zbv_some, zbi_none, zbl_none, zbv_none, zbi_ite, zbl_ite, zbv_ite, zbZ, zbO, zc_lt, zc_le, zc_ge, zc_gt, zc_eq, zk0, zk1, zk2, zk3, zk4, zk5, zk6, zk7, zk8, zk9, zk10, zk11, zk12, zk14, zk15, zk16, zk17, zk19, zk20, zk21, zk24, zk25, zk30, zk32, zk36, zk40, zk45, zk50, zk64, zk97, zk99, zk100, zk102, zk122, zk128, zk255, zk800, zk801, zk900, zk999, zk1000, zk1997, zk9999, zk10000, zk100000, zk99999, zk9999999, zk999999999, zk2147483647, zlc0, zlc1, zlc2, zlc3, zlc4, zlc23, zlc99, zlc100, zlc9999999, zlc999999999999, zlc1073741824, zi_neg, zi_add, zi_sub, zi_mul, zl_neg, zl_add, zl_sub, zl_mul, zi_toInt, zi_nat, zi_le, zi_lt, zi_eq, zl_le, zl_lt, zl_eq, zl_toInt, zl_of32, zi_of64, zi_div, zl_div, zmodI, ↓reduceIte, zTle, zFle, zTlt, zFlt, zTeq, zFeq, if_true, if_false, and_self, and_true, true_and, and_false, false_and, or_self, or_true, true_or, or_false, false_or, not_true_eq_false, not_false_eq_true, zcastA, zcastL, znatC, zab, Int.reduceAdd, Int.reduceSub, Int.reduceMul, Int.reduceNeg, Int.reduceToNat, Nat.reduceAdd]
    rfl
theorem tu_all (call : zC) (len : Nat) (ho : o ≤ 264) (hN : N ≤ 24) (h2 : (mqP ln Q N).length ≤ 2) : ∀ c t : Nat, t + c = N → ∀ (Y : zMu) (ν : zNu) (v2 v3 : Value), WP o Y ν ln Q N → TU Q N (mqP ln Q t) (lqP ln Q t) Y ν → ∃ (Y' : zMu) (ν' : zNu), zE zc_X12_takesUnknowns call 12 [.ref 92, .int (zi (t : Int)), v2, v3] [] (zm len Y ν) = some (.null, zm len Y' ν') ∧ TU Q N (mqP ln Q N) (lqP ln Q N) Y' ν' ∧ frT Y Y' ν ν' := by
  have mono : ∀ c t : Nat, t + c = N → (mqP ln Q t).length ≤ (mqP ln Q N).length := by
    intro c
    induction c with
    | zero =>
      intro t ht
      have : t = N := by omega
      subst this
      exact Nat.le_refl _
    | succ c ih =>
      intro t ht
      have a := ih (t + 1) (by omega)
      have : (mqP ln Q (t + 1)).length = (mqP ln Q t).length + ((ln (Q t)).2.2.2.2.map (fun p => (Q t, p))).length := List.length_append
      omega
  intro c
  induction c with
  | zero =>
    intro t ht Y ν v2 v3 hW hT
    have : t = N := by omega
    subst this
    have e31 := hW.1
    refine ⟨Y, ν, ?_, hT, frT_rf Y ν⟩
    rw [B_X12_takesUnknowns_12]
    simp (disch := omega) only [e31, zbi_some, zbl_some, zbv_some, zbi_none, zbl_none, zbv_none, zbi_ite, zbl_ite, zbv_ite, zbZ, zbO, zc_lt, zc_le, zc_ge, zc_gt, zc_eq, zk0, zk1, zk2, zk3, zk4, zk5, zk6, zk7, zk8, zk9, zk10, zk11, zk12, zk14, zk15, zk16, zk17, zk19, zk20, zk21, zk24, zk25, zk30, zk32, zk36, zk40, zk45, zk50, zk64, zk97, zk99, zk100, zk102, zk122, zk128, zk255, zk800, zk801, zk900, zk999, zk1000, zk1997, zk9999, zk10000, zk100000, zk99999, zk9999999, zk999999999, zk2147483647, zlc0, zlc1, zlc2, zlc3, zlc4, zlc23, zlc99, zlc100, zlc9999999, zlc999999999999, zlc1073741824, zi_neg, zi_add, zi_sub, zi_mul, zl_neg, zl_add, zl_sub, zl_mul, zi_toInt, zi_nat, zi_le, zi_lt, zi_eq, zl_le, zl_lt, zl_eq, zl_toInt, zl_of32, zi_of64, zi_div, zl_div, zmodI, ↓reduceIte, zTle, zFle, zTlt, zFlt, zTeq, zFeq, if_true, if_false, and_self, and_true, true_and, and_false, false_and, or_self, or_true, true_or, or_false, false_or, not_true_eq_false, not_false_eq_true, zcastA, zcastL, znatC, zab, Int.reduceAdd, Int.reduceSub, Int.reduceMul, Int.reduceNeg, Int.reduceToNat, Nat.reduceAdd]
  | succ c ih =>
    intro t ht Y ν v2 v3 hW hT
    have e31 := hW.1
    obtain ⟨e112, q24, hv, hM⟩ := hW.2 t (by omega)
    have e103 := hM.2.2.2.1
    have vb := hv.2.2.1
    have ix : ((o : Int) + (Q t : Int)).toNat = o + Q t := by omega
    have e112 : Y 112 t = zi ((o : Int) + (Q t : Int)) := e112
    have hl : (mqP ln Q t).length + (ln (Q t)).2.2.2.2.length ≤ 2 := by
      have a := mono c (t + 1) (by omega)
      have : (mqP ln Q (t + 1)).length = (mqP ln Q t).length + ((ln (Q t)).2.2.2.2.map (fun p => (Q t, p))).length := List.length_append
      rw [List.length_map] at this
      omega
    obtain ⟨t35, t36, tm⟩ := hT
    have lq : lqP ln Q (t + 1) = if (ln (Q t)).2.2.1 = 1 then (t : Int) else lqP ln Q t := rfl
    by_cases z : (ln (Q t)).2.2.1 = 0
    · rw [if_neg (by omega)] at lq
      obtain ⟨Y1, ν1, A, A1, A2⟩ := tu_in call len ho hN (show t < N by omega) (lqP ln Q t) (mqP ln Q t) (ln (Q t)).2.2.2.2 [] rfl hl Y ν hW (by
        show TU Q N (mqP ln Q t ++ []) _ Y ν
        rw [List.append_nil]
        exact ⟨t35, t36, tm⟩)
      rw [← lq] at A1
      obtain ⟨Y2, ν2, B, B1, B2⟩ := ih (t + 1) (by omega) Y1 ν1 _ _ (WP_t hW A2) A1
      refine ⟨Y2, ν2, ?_, B1, frT_tr A2 B2⟩
      refine Eq.trans ?_ (A.trans B)
      rw [B_X12_takesUnknowns_12]
      simp (disch := omega) only [e31, e112, ix, e103, z, B_X12_takesUnknowns_41, zbi_some, zbl_some, zbv_some, zbi_none, zbl_none, zbv_none, zbi_ite, zbl_ite, zbv_ite, zbZ, zbO, zc_lt, zc_le, zc_ge, zc_gt, zc_eq, zk0, zk1, zk2, zk3, zk4, zk5, zk6, zk7, zk8, zk9, zk10, zk11, zk12, zk14, zk15, zk16, zk17, zk19, zk20, zk21, zk24, zk25, zk30, zk32, zk36, zk40, zk45, zk50, zk64, zk97, zk99, zk100, zk102, zk122, zk128, zk255, zk800, zk801, zk900, zk999, zk1000, zk1997, zk9999, zk10000, zk100000, zk99999, zk9999999, zk999999999, zk2147483647, zlc0, zlc1, zlc2, zlc3, zlc4, zlc23, zlc99, zlc100, zlc9999999, zlc999999999999, zlc1073741824, zi_neg, zi_add, zi_sub, zi_mul, zl_neg, zl_add, zl_sub, zl_mul, zi_toInt, zi_nat, zi_le, zi_lt, zi_eq, zl_le, zl_lt, zl_eq, zl_toInt, zl_of32, zi_of64, zi_div, zl_div, zmodI, ↓reduceIte, zTle, zFle, zTlt, zFlt, zTeq, zFeq, if_true, if_false, and_self, and_true, true_and, and_false, false_and, or_self, or_true, true_or, or_false, false_or, not_true_eq_false, not_false_eq_true, zcastA, zcastL, znatC, zab, Int.reduceAdd, Int.reduceSub, Int.reduceMul, Int.reduceNeg, Int.reduceToNat, Nat.reduceAdd]
      rfl
    · rw [if_pos (by omega)] at lq
      have f1 : frT Y (zup Y 92 36 (zi (t : Int))) ν ν := ⟨fun r a _ _ => zup_ne _ _ _ a, fun i _ b => by simp (disch := omega) only [zup_at, upd_eq, upd_ne, ne_eq, Nat.reduceEqDiff, ↓reduceIte, if_true, if_false], fun _ _ => rfl⟩
      obtain ⟨Y1, ν1, A, A1, A2⟩ := tu_in call len ho hN (show t < N by omega) (t : Int) (mqP ln Q t) (ln (Q t)).2.2.2.2 [] rfl hl (zup Y 92 36 (zi (t : Int))) ν (WP_t hW f1) (by
        show TU Q N (mqP ln Q t ++ []) _ _ ν
        rw [List.append_nil]
        exact ⟨t35, rfl, tm⟩)
      rw [← lq] at A1
      obtain ⟨Y2, ν2, B, B1, B2⟩ := ih (t + 1) (by omega) Y1 ν1 _ _ (WP_t (WP_t hW f1) A2) A1
      refine ⟨Y2, ν2, ?_, B1, frT_tr f1 (frT_tr A2 B2)⟩
      refine Eq.trans ?_ (A.trans B)
      rw [B_X12_takesUnknowns_12]
      simp (disch := omega) only [e31, e112, ix, e103, z, B_X12_takesUnknowns_41, zbi_some, zbl_some, zbv_some, zbi_none, zbl_none, zbv_none, zbi_ite, zbl_ite, zbv_ite, zbZ, zbO, zc_lt, zc_le, zc_ge, zc_gt, zc_eq, zk0, zk1, zk2, zk3, zk4, zk5, zk6, zk7, zk8, zk9, zk10, zk11, zk12, zk14, zk15, zk16, zk17, zk19, zk20, zk21, zk24, zk25, zk30, zk32, zk36, zk40, zk45, zk50, zk64, zk97, zk99, zk100, zk102, zk122, zk128, zk255, zk800, zk801, zk900, zk999, zk1000, zk1997, zk9999, zk10000, zk100000, zk99999, zk9999999, zk999999999, zk2147483647, zlc0, zlc1, zlc2, zlc3, zlc4, zlc23, zlc99, zlc100, zlc9999999, zlc999999999999, zlc1073741824, zi_neg, zi_add, zi_sub, zi_mul, zl_neg, zl_add, zl_sub, zl_mul, zi_toInt, zi_nat, zi_le, zi_lt, zi_eq, zl_le, zl_lt, zl_eq, zl_toInt, zl_of32, zi_of64, zi_div, zl_div, zmodI, ↓reduceIte, zTle, zFle, zTlt, zFlt, zTeq, zFeq, if_true, if_false, and_self, and_true, true_and, and_false, false_and, or_self, or_true, true_or, or_false, false_or, not_true_eq_false, not_false_eq_true, zcastA, zcastL, znatC, zab, Int.reduceAdd, Int.reduceSub, Int.reduceMul, Int.reduceNeg, Int.reduceToNat, Nat.reduceAdd]
      rfl
theorem F_unk (d len : Nat) (ho : o ≤ 264) (hN : N ≤ 24) (h2 : (mqP ln Q N).length ≤ 2) {Y : zMu} {ν : zNu} (hW : WP o Y ν ln Q N) : ∃ (Y' : zMu) (ν' : zNu), zF zT0 (d + 1) 212 [.ref 92] (zm len Y ν) = some (.null, zm len Y' ν') ∧ TU Q N (mqP ln Q N) (lqP ln Q N) Y' ν' ∧ frT Y Y' ν ν' := by
  have f1 : frT Y (zup (zup Y 92 35 (zi 0)) 92 36 (zi (-1))) ν ν := ⟨fun r a _ _ => by rw [zup_ne _ _ _ a, zup_ne _ _ _ a], fun i a b => by simp (disch := omega) only [zup_at, upd_eq, upd_ne, ne_eq, Nat.reduceEqDiff, ↓reduceIte, if_true, if_false], fun _ _ => rfl⟩
  obtain ⟨Y1, ν1, A, A1, A2⟩ := tu_all (zF zT0 d) len ho hN h2 N 0 (by omega) (zup (zup Y 92 35 (zi 0)) 92 36 (zi (-1))) ν zU zU (WP_t hW f1) ⟨rfl, rfl, fun x q hq => by cases hq⟩
  refine ⟨Y1, ν1, ?_, A1, frT_tr f1 A2⟩
  rw [B_X12_takesUnknowns]
  exact A
end UK

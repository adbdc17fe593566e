/-! TABLET solved: the class's spans and loops -/
theorem loF_m (ln : Nat → Ln) (b : Nat) : ∀ n : Nat, loF ln b n ≠ -1 → ∃ l : Nat, loF ln b n = (l : Int) ∧ l < n ∧ bkF ln l = b ∧ (ln l).2.2.1 = 1
  | 0, h => absurd rfl h
  | n + 1, h => by
    rw [loF_S] at h ⊢
    by_cases c : bkF ln n = b ∧ (ln n).2.2.1 = 1
    · rw [if_pos c]
      exact ⟨n, rfl, Nat.lt_succ_self n, c.1, c.2⟩
    · rw [if_neg c] at h ⊢
      obtain ⟨l, a1, a2, a3⟩ := loF_m ln b n h
      exact ⟨l, a1, by omega, a3⟩
theorem clF_01 (ln : Nat → Ln) (b : Nat) : ∀ n : Nat, clF ln b n = 0 ∨ clF ln b n = 1
  | 0 => Or.inl rfl
  | n + 1 => by
    rw [clF_S]
    by_cases c : bkF ln n = b ∧ (ln n).1 = 2
    · rw [if_pos c]
      exact Or.inr rfl
    · rw [if_neg c]
      exact clF_01 ln b n
def osp (ln : Nat → Ln) (b : Nat) (R : Nat → Int32) (v : Nat → Int) (m : Nat) : Nat → Int32 := fun j => if j < m ∧ bkF ln j = b then zi (v j) else R j
theorem osp_S {ln : Nat → Ln} {b : Nat} (R : Nat → Int32) (v : Nat → Int) {m : Nat} (h : bkF ln m = b) {x : Int} (hx : x = v m) : upd (osp ln b R v m) m (zi x) = osp ln b R v (m + 1) := by
  funext j
  unfold osp
  by_cases z : j = m
  · subst z
    rw [upd_eq, if_pos ⟨Nat.lt_succ_self j, h⟩, hx]
  · rw [upd_ne _ _ z]
    by_cases w : j < m ∧ bkF ln j = b
    · rw [if_pos w, if_pos ⟨by omega, w.2⟩]
    · rw [if_neg w, if_neg (fun q => w ⟨by omega, q.2⟩)]
theorem osp_N {ln : Nat → Ln} {b : Nat} (R : Nat → Int32) (v : Nat → Int) {m : Nat} (h : bkF ln m ≠ b) : osp ln b R v m = osp ln b R v (m + 1) := by
  funext j
  unfold osp
  by_cases w : j < m ∧ bkF ln j = b
  · rw [if_pos w, if_pos ⟨by omega, w.2⟩]
  · rw [if_neg w, if_neg (fun q => w ⟨by
      by_cases z : j = m
      · rw [z] at q
        exact absurd q.2 h
      · omega, q.2⟩)]
theorem osp_b (ln : Nat → Ln) (b : Nat) (R : Nat → Int32) (v : Nat → Int) : osp ln b R v b = R := by
  funext j
  unfold osp
  rw [if_neg (fun q => by have := bkF_le ln j; omega)]
abbrev unK (ln : Nat → Ln) (n b j : Nat) : Prop := (j : Int) = loF ln b n ∨ (j : Int) = mL (mkF ln b n) 0 ∨ (j : Int) = mL (mkF ln b n) 1
def lo0 (ln : Nat → Ln) (n b : Nat) (j : Nat) : Int := if unK ln n b j then 2147483647 else (ln j).2.2.2.1
def hi0 (ln : Nat → Ln) (n b : Nat) (j : Nat) : Int := if unK ln n b j then -1 else (ln j).2.2.2.1
section SC2
variable {ln : Nat → Ln} {n b : Nat}
theorem F_open (d len : Nat) {M : zMu} (ν : zNu) (h : LV ln n) (hn : n ≤ 24) (hD : DBd M ln n) (hb : b < n) (hbb : bkF ln b = b) : ∃ M', zF zT0 (d + 1) 26 [.ref 11, .int (zi (b : Int))] (zm len M ν) = some (.null, zm len M' ν) ∧ RW ln n b M' (lo0 ln n b) (hi0 ln n b) ∧ frB ln b M M' := by
  have e11 := hD.1
  obtain ⟨_, _, e22, _⟩ := hD.2.2.2 b hb hbb
  obtain ⟨m01, _, _⟩ := (hD.2.2.2 b hb hbb).2.2.2.2.2 0 (by decide)
  obtain ⟨m11, _, _⟩ := (hD.2.2.2 b hb hbb).2.2.2.2.2 1 (by decide)
  rw [Nat.add_zero] at m01
  have i0 : (2 * (b : Int)).toNat = 2 * b := by omega
  have i1 : (2 * (b : Int) + 1).toNat = 2 * b + 1 := by omega
  have lr := loF_r ln b n
  have r0 : -1 ≤ mL (mkF ln b n) 0 ∧ mL (mkF ln b n) 0 ≤ 24 := by
    rcases mk_r h b 0 with ⟨q, _, _⟩ | ⟨_, q, _⟩ <;> omega
  have r1 : -1 ≤ mL (mkF ln b n) 1 ∧ mL (mkF ln b n) 1 ≤ 24 := by
    rcases mk_r h b 1 with ⟨q, _, _⟩ | ⟨_, q, _⟩ <;> omega
  have zm1 : (-1 : Int32) = zi (-1) := rfl
  have Lp : ∀ k m : Nat, m + k = n → b ≤ m → ∀ v : Value, zE zc_X1_openSpans (zF zT0 d) 2 [.ref 11, .int (zi (b : Int)), .int (zi (m : Int)), v] [] (zm len (zrw (zrw M 15 (osp ln b (M 15) (lo0 ln n b) m)) 16 (osp ln b (M 16) (hi0 ln n b) m)) ν) = some (.null, zm len (zrw (zrw M 15 (osp ln b (M 15) (lo0 ln n b) n)) 16 (osp ln b (M 16) (hi0 ln n b) n)) ν) := by
    intro k
    induction k with
    | zero =>
      intro m hm hbm v
      have : m = n := by omega
      subst this
      rw [B_X1_openSpans_2]
      simp (disch := omega) only [zrw_n, e11, zbi_some, zbl_some, zbv_some, zbi_none, zbl_none, zbv_none, zbi_ite, zbl_ite, zbv_ite, zbZ, zbO, zc_lt, zc_le, zc_ge, zc_gt, zc_eq, zk0, zk1, zk2, zk3, zk4, zk5, zk6, zk7, zk8, zk9, zk10, zk11, zk12, zk14, zk15, zk16, zk17, zk19, zk20, zk21, zk24, zk25, zk30, zk32, zk36, zk40, zk45, zk50, zk64, zk97, zk99, zk100, zk102, zk122, zk128, zk255, zk800, zk801, zk900, zk999, zk1000, zk1997, zk9999, zk10000, zk100000, zk99999, zk9999999, zk999999999, zk2147483647, zlc0, zlc1, zlc2, zlc3, zlc4, zlc23, zlc99, zlc100, zlc9999999, zlc999999999999, zlc1073741824, zi_neg, zi_add, zi_sub, zi_mul, zl_neg, zl_add, zl_sub, zl_mul, zi_toInt, zi_nat, zi_le, zi_lt, zi_eq, zl_le, zl_lt, zl_eq, zl_toInt, zl_of32, zi_of64, zi_div, zl_div, zmodI, ↓reduceIte, zTle, zFle, zTlt, zFlt, zTeq, zFeq, if_true, if_false, and_self, and_true, true_and, and_false, false_and, or_self, or_true, true_or, or_false, false_or, not_true_eq_false, not_false_eq_true, zcastA, zcastL, znatC, zab, Int.reduceAdd, Int.reduceSub, Int.reduceMul, Int.reduceNeg, Int.reduceToNat, Nat.reduceAdd]
    | succ k ih =>
      intro m hm hbm v
      have e17 := (hD.2.1 m (by omega)).2.2.2
      have e14 := (hD.2.1 m (by omega)).2.2.1
      have bl := bkF_le ln m
      rw [B_X1_openSpans_2]
      by_cases c : bkF ln m = b
      · have c' : (bkF ln m : Int) = (b : Int) := by omega
        by_cases u : unK ln n b m
        · have v0 : (2147483647 : Int) = lo0 ln n b m := by unfold lo0; rw [if_pos u]
          have v1 : (-1 : Int) = hi0 ln n b m := by unfold hi0; rw [if_pos u]
          have S15 := osp_S (M 15) (lo0 ln n b) c v0
          have S16 := osp_S (M 16) (hi0 ln n b) c v1
          have ih' := ih (m + 1) (by omega) (by omega) (.int (zi 0))
          by_cases u1 : (m : Int) = loF ln b n
          · have e22' : M 22 b = zi (m : Int) := by rw [u1]; exact e22
            simp (disch := omega) only [zrw_n, e11, e17, c', e22', B_X1_openSpans_60, B_X1_openSpans_61, B_X1_openSpans_82, B_X1_openSpans_102, B_X1_openSpans_103, zup_zrw_n, zup_zrw, S15, S16, zm1, zbi_some, zbl_some, zbv_some, zbi_none, zbl_none, zbv_none, zbi_ite, zbl_ite, zbv_ite, zbZ, zbO, zc_lt, zc_le, zc_ge, zc_gt, zc_eq, zk0, zk1, zk2, zk3, zk4, zk5, zk6, zk7, zk8, zk9, zk10, zk11, zk12, zk14, zk15, zk16, zk17, zk19, zk20, zk21, zk24, zk25, zk30, zk32, zk36, zk40, zk45, zk50, zk64, zk97, zk99, zk100, zk102, zk122, zk128, zk255, zk800, zk801, zk900, zk999, zk1000, zk1997, zk9999, zk10000, zk100000, zk99999, zk9999999, zk999999999, zk2147483647, zlc0, zlc1, zlc2, zlc3, zlc4, zlc23, zlc99, zlc100, zlc9999999, zlc999999999999, zlc1073741824, zi_neg, zi_add, zi_sub, zi_mul, zl_neg, zl_add, zl_sub, zl_mul, zi_toInt, zi_nat, zi_le, zi_lt, zi_eq, zl_le, zl_lt, zl_eq, zl_toInt, zl_of32, zi_of64, zi_div, zl_div, zmodI, ↓reduceIte, zTle, zFle, zTlt, zFlt, zTeq, zFeq, if_true, if_false, and_self, and_true, true_and, and_false, false_and, or_self, or_true, true_or, or_false, false_or, not_true_eq_false, not_false_eq_true, zcastA, zcastL, znatC, zab, Int.reduceAdd, Int.reduceSub, Int.reduceMul, Int.reduceNeg, Int.reduceToNat, Nat.reduceAdd]
            exact ih'
          · by_cases u2 : (m : Int) = mL (mkF ln b n) 0
            · have m01' : M 24 (2 * b) = zi (m : Int) := by rw [u2]; exact m01
              simp (disch := omega) only [zrw_n, e11, e17, c', e22, u1, i0, m01', B_X1_openSpans_60, B_X1_openSpans_61, B_X1_openSpans_82, B_X1_openSpans_102, B_X1_openSpans_103, zup_zrw_n, zup_zrw, S15, S16, zm1, zbi_some, zbl_some, zbv_some, zbi_none, zbl_none, zbv_none, zbi_ite, zbl_ite, zbv_ite, zbZ, zbO, zc_lt, zc_le, zc_ge, zc_gt, zc_eq, zk0, zk1, zk2, zk3, zk4, zk5, zk6, zk7, zk8, zk9, zk10, zk11, zk12, zk14, zk15, zk16, zk17, zk19, zk20, zk21, zk24, zk25, zk30, zk32, zk36, zk40, zk45, zk50, zk64, zk97, zk99, zk100, zk102, zk122, zk128, zk255, zk800, zk801, zk900, zk999, zk1000, zk1997, zk9999, zk10000, zk100000, zk99999, zk9999999, zk999999999, zk2147483647, zlc0, zlc1, zlc2, zlc3, zlc4, zlc23, zlc99, zlc100, zlc9999999, zlc999999999999, zlc1073741824, zi_neg, zi_add, zi_sub, zi_mul, zl_neg, zl_add, zl_sub, zl_mul, zi_toInt, zi_nat, zi_le, zi_lt, zi_eq, zl_le, zl_lt, zl_eq, zl_toInt, zl_of32, zi_of64, zi_div, zl_div, zmodI, ↓reduceIte, zTle, zFle, zTlt, zFlt, zTeq, zFeq, if_true, if_false, and_self, and_true, true_and, and_false, false_and, or_self, or_true, true_or, or_false, false_or, not_true_eq_false, not_false_eq_true, zcastA, zcastL, znatC, zab, Int.reduceAdd, Int.reduceSub, Int.reduceMul, Int.reduceNeg, Int.reduceToNat, Nat.reduceAdd]
              exact ih'
            · have u3 : (m : Int) = mL (mkF ln b n) 1 := by
                rcases u with q | q | q
                · exact absurd q u1
                · exact absurd q u2
                · exact q
              have m11' : M 24 (2 * b + 1) = zi (m : Int) := by rw [u3]; exact m11
              simp (disch := omega) only [zrw_n, e11, e17, c', e22, u1, i0, m01, u2, i1, m11', B_X1_openSpans_60, B_X1_openSpans_61, B_X1_openSpans_82, B_X1_openSpans_102, B_X1_openSpans_103, zup_zrw_n, zup_zrw, S15, S16, zm1, zbi_some, zbl_some, zbv_some, zbi_none, zbl_none, zbv_none, zbi_ite, zbl_ite, zbv_ite, zbZ, zbO, zc_lt, zc_le, zc_ge, zc_gt, zc_eq, zk0, zk1, zk2, zk3, zk4, zk5, zk6, zk7, zk8, zk9, zk10, zk11, zk12, zk14, zk15, zk16, zk17, zk19, zk20, zk21, zk24, zk25, zk30, zk32, zk36, zk40, zk45, zk50, zk64, zk97, zk99, zk100, zk102, zk122, zk128, zk255, zk800, zk801, zk900, zk999, zk1000, zk1997, zk9999, zk10000, zk100000, zk99999, zk9999999, zk999999999, zk2147483647, zlc0, zlc1, zlc2, zlc3, zlc4, zlc23, zlc99, zlc100, zlc9999999, zlc999999999999, zlc1073741824, zi_neg, zi_add, zi_sub, zi_mul, zl_neg, zl_add, zl_sub, zl_mul, zi_toInt, zi_nat, zi_le, zi_lt, zi_eq, zl_le, zl_lt, zl_eq, zl_toInt, zl_of32, zi_of64, zi_div, zl_div, zmodI, ↓reduceIte, zTle, zFle, zTlt, zFlt, zTeq, zFeq, if_true, if_false, and_self, and_true, true_and, and_false, false_and, or_self, or_true, true_or, or_false, false_or, not_true_eq_false, not_false_eq_true, zcastA, zcastL, znatC, zab, Int.reduceAdd, Int.reduceSub, Int.reduceMul, Int.reduceNeg, Int.reduceToNat, Nat.reduceAdd]
              exact ih'
        · have v0 : (ln m).2.2.2.1 = lo0 ln n b m := by unfold lo0; rw [if_neg u]
          have v1 : (ln m).2.2.2.1 = hi0 ln n b m := by unfold hi0; rw [if_neg u]
          have S15 := osp_S (M 15) (lo0 ln n b) c v0
          have S16 := osp_S (M 16) (hi0 ln n b) c v1
          have ih' := ih (m + 1) (by omega) (by omega) (.int (zi 1))
          have u1 : ¬ (m : Int) = loF ln b n := fun q => u (Or.inl q)
          have u2 : ¬ (m : Int) = mL (mkF ln b n) 0 := fun q => u (Or.inr (Or.inl q))
          have u3 : ¬ (m : Int) = mL (mkF ln b n) 1 := fun q => u (Or.inr (Or.inr q))
          simp (disch := omega) only [zrw_n, e11, e17, e14, c', e22, u1, i0, m01, u2, i1, m11, u3, B_X1_openSpans_61, B_X1_openSpans_82, B_X1_openSpans_102, B_X1_openSpans_103, zup_zrw_n, zup_zrw, S15, S16, zm1, zbi_some, zbl_some, zbv_some, zbi_none, zbl_none, zbv_none, zbi_ite, zbl_ite, zbv_ite, zbZ, zbO, zc_lt, zc_le, zc_ge, zc_gt, zc_eq, zk0, zk1, zk2, zk3, zk4, zk5, zk6, zk7, zk8, zk9, zk10, zk11, zk12, zk14, zk15, zk16, zk17, zk19, zk20, zk21, zk24, zk25, zk30, zk32, zk36, zk40, zk45, zk50, zk64, zk97, zk99, zk100, zk102, zk122, zk128, zk255, zk800, zk801, zk900, zk999, zk1000, zk1997, zk9999, zk10000, zk100000, zk99999, zk9999999, zk999999999, zk2147483647, zlc0, zlc1, zlc2, zlc3, zlc4, zlc23, zlc99, zlc100, zlc9999999, zlc999999999999, zlc1073741824, zi_neg, zi_add, zi_sub, zi_mul, zl_neg, zl_add, zl_sub, zl_mul, zi_toInt, zi_nat, zi_le, zi_lt, zi_eq, zl_le, zl_lt, zl_eq, zl_toInt, zl_of32, zi_of64, zi_div, zl_div, zmodI, ↓reduceIte, zTle, zFle, zTlt, zFlt, zTeq, zFeq, if_true, if_false, and_self, and_true, true_and, and_false, false_and, or_self, or_true, true_or, or_false, false_or, not_true_eq_false, not_false_eq_true, zcastA, zcastL, znatC, zab, Int.reduceAdd, Int.reduceSub, Int.reduceMul, Int.reduceNeg, Int.reduceToNat, Nat.reduceAdd]
          exact ih'
      · have c' : ¬ (bkF ln m : Int) = (b : Int) := by omega
        have S15 := osp_N (M 15) (lo0 ln n b) c
        have S16 := osp_N (M 16) (hi0 ln n b) c
        have ih' := ih (m + 1) (by omega) (by omega) v
        rw [← S15, ← S16] at ih'
        simp (disch := omega) only [zrw_n, e11, e17, c', B_X1_openSpans_103, zbi_some, zbl_some, zbv_some, zbi_none, zbl_none, zbv_none, zbi_ite, zbl_ite, zbv_ite, zbZ, zbO, zc_lt, zc_le, zc_ge, zc_gt, zc_eq, zk0, zk1, zk2, zk3, zk4, zk5, zk6, zk7, zk8, zk9, zk10, zk11, zk12, zk14, zk15, zk16, zk17, zk19, zk20, zk21, zk24, zk25, zk30, zk32, zk36, zk40, zk45, zk50, zk64, zk97, zk99, zk100, zk102, zk122, zk128, zk255, zk800, zk801, zk900, zk999, zk1000, zk1997, zk9999, zk10000, zk100000, zk99999, zk9999999, zk999999999, zk2147483647, zlc0, zlc1, zlc2, zlc3, zlc4, zlc23, zlc99, zlc100, zlc9999999, zlc999999999999, zlc1073741824, zi_neg, zi_add, zi_sub, zi_mul, zl_neg, zl_add, zl_sub, zl_mul, zi_toInt, zi_nat, zi_le, zi_lt, zi_eq, zl_le, zl_lt, zl_eq, zl_toInt, zl_of32, zi_of64, zi_div, zl_div, zmodI, ↓reduceIte, zTle, zFle, zTlt, zFlt, zTeq, zFeq, if_true, if_false, and_self, and_true, true_and, and_false, false_and, or_self, or_true, true_or, or_false, false_or, not_true_eq_false, not_false_eq_true, zcastA, zcastL, znatC, zab, Int.reduceAdd, Int.reduceSub, Int.reduceMul, Int.reduceNeg, Int.reduceToNat, Nat.reduceAdd]
        exact ih'
  refine ⟨zrw (zrw M 15 (osp ln b (M 15) (lo0 ln n b) n)) 16 (osp ln b (M 16) (hi0 ln n b) n), ?_, fun j hj hjb => ?_, fun r a1 a2 a3 => ?_, fun j hj => ⟨?_, ?_⟩, fun c hc => ?_⟩
  · have := Lp (n - b) b (by omega) (Nat.le_refl b) zU
    rw [osp_b, osp_b, zrw_id, zrw_id] at this
    rw [B_X1_openSpans]
    exact this
  · have v := (h.1 j hj).2.2.2.1
    rw [zrw_n _ _ (show 15 ≠ 16 by decide), zrw_s, zrw_s]
    unfold osp
    rw [if_pos ⟨hj, hjb⟩, if_pos ⟨hj, hjb⟩]
    unfold lo0 hi0
    refine ⟨⟨rfl, ?_⟩, rfl, ?_⟩
    · split <;> omega
    · split <;> omega
  · rw [zrw_n _ _ a2, zrw_n _ _ a1]
  · rw [zrw_n _ _ (show 15 ≠ 16 by decide), zrw_s]
    unfold osp
    rw [if_neg (fun q => hj q.2)]
  · rw [zrw_s]
    unfold osp
    rw [if_neg (fun q => hj q.2)]
  · rw [zrw_n _ _ (show 21 ≠ 16 by decide), zrw_n _ _ (show 21 ≠ 15 by decide)]
end SC2

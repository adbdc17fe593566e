/-! TABLET read: a COUNT and its SIGN that can be, the model's; both sides at once -/
theorem addm_0 (x : Ln) (a : Int) : addm x a [] = (x.1, x.2.1, x.2.2.1, x.2.2.2.1 + a, x.2.2.2.2) := by unfold addm; rw [List.append_nil]
theorem addm_m (x : Ln) (ms : List (Int × Int)) : addm x 0 ms = (x.1, x.2.1, x.2.2.1, x.2.2.2.1, x.2.2.2.2 ++ ms) := by unfold addm; rw [Int.add_zero]
theorem mk_len (ln : Nat → Ln) (n : Nat) : (mkF ln (bkF ln n) (n + 1)).length = (mkF ln (bkF ln n) n).length + (ln n).2.2.2.2.length := by rw [mkF_S, if_pos rfl, List.length_append, List.length_map]
theorem lo01_S (ln : Nat → Ln) (n : Nat) : lo01 ln n = if (ln n).2.2.1 = 1 ∨ loF ln (bkF ln n) n ≠ -1 then 1 else 0 := by
  unfold lo01
  rw [loF_S]
  by_cases y : (ln n).2.2.1 = 1
  · rw [if_pos (Or.inl y), show (if bkF ln n = bkF ln n ∧ (ln n).2.2.1 = 1 then (n : Int) else loF ln (bkF ln n) n) = (n : Int) from if_pos ⟨rfl, y⟩, if_neg (show ¬ (n : Int) = -1 by omega)]
  · rw [if_neg (show ¬ (bkF ln n = bkF ln n ∧ (ln n).2.2.1 = 1) from fun q => y q.2)]
    by_cases w : loF ln (bkF ln n) n = -1
    · rw [if_pos w, if_neg (fun q => by rcases q with q | q; exact y q; exact q w)]
    · rw [if_neg w, if_pos (Or.inr w)]
section COUNTK
variable {g : Nat → Int} {L K : Nat} {pl nn : Nat → Nat} {ty va : Nat → Int} {sy sn : Nat → Nat} {st : Nat → Nat → Int}
theorem cm_num (S : Strm g L K pl nn ty va) (hL : L ≤ 800) (hg : ∀ i, 0 ≤ g i ∧ g i ≤ 255) (hNP : NP sy sn st) {k : Nat} (hk : k + 1 < K) (d len : Nat) {Y : zMu} (ν : zNu) {r : Nat → Int32} (hY : CcY g Y) (e6 : r 6 = zi (L : Int)) (hM : MS pl nn ty va r (k + 1)) {n : Nat} (hn : n < 24) {ln : Nat → Ln} (hD : MMd Y ν ln n) (hm3 : ∀ i, i < n → (ln i).2.2.2.2.length ≤ 3) (x2 : Int32) {s j : Nat} (hs : s < 4) (h1 : j < sn s) (hv : 0 ≤ va k ∧ va k ≤ 9999) : (moF sn st s j < va k → ∃ r', zE zc_X12_readCount (zF zT0 (d + 3)) 161 [.ref 92, .int (zi ((288 + n : Nat) : Int)), .int x2, .int (zi (s : Int)), .int (zi 0), .int (zi (pl k : Int)), .int (zi (va k)), .int (zi (j : Int)), .int (zi (moF sn st s j)), zU, zU] [.long (zl (zP (st s) j))] (zm len (zrw Y 92 r) ν) = some (.int (zi (-1)), zm len (zrw Y 92 r') ν) ∧ r' 12 = zi 2 ∧ r' 13 = zi (pl k : Int) ∧ fr6 r r') ∧ (va k ≤ moF sn st s j → ∃ r' ν', zE zc_X12_readCount (zF zT0 (d + 3)) 161 [.ref 92, .int (zi ((288 + n : Nat) : Int)), .int x2, .int (zi (s : Int)), .int (zi 0), .int (zi (pl k : Int)), .int (zi (va k)), .int (zi (j : Int)), .int (zi (moF sn st s j)), zU, zU] [.long (zl (zP (st s) j))] (zm len (zrw Y 92 r) ν) = some (.int (zi (j : Int)), zm len (zrw Y 92 r') ν') ∧ MS pl nn ty va r' (k + 2) ∧ fr4 r r' ∧ frN Y Y ν ν' ∧ MMd Y ν' (setL ln n (addm (ln n) (va k * zP (st s) j) [])) n) := by
  have m := mo_r hNP hs h1
  have ix : (288 + (n : Int)).toNat = 288 + n := by omega
  refine ⟨fun hlt => ?_, fun hle => ?_⟩
  · refine ⟨upd (upd r 12 (zi 2)) 13 (zi (pl k : Int)), ?_, rfl, rfl, fun i _ _ _ _ i12 i13 => by rw [upd_ne _ _ i13, upd_ne _ _ i12]⟩
    rw [B_X12_readCount_161]
    simp (disch := omega) only [B_X12_failsAt, zup_zrw, B_X12_readCount_257, zbi_some, zbl_some, zbv_some, zbi_none, zbl_none, zbv_none, zbi_ite, zbl_ite, zbv_ite, zbZ, zbO, zc_lt, zc_le, zc_ge, zc_gt, zc_eq, zk0, zk1, zk2, zk3, zk4, zk5, zk6, zk7, zk8, zk9, zk10, zk11, zk12, zk14, zk15, zk16, zk17, zk19, zk20, zk21, zk24, zk25, zk30, zk32, zk36, zk40, zk45, zk50, zk64, zk97, zk99, zk100, zk102, zk122, zk128, zk255, zk800, zk801, zk900, zk999, zk1000, zk1997, zk9999, zk10000, zk100000, zk99999, zk9999999, zk999999999, zk2147483647, zlc0, zlc1, zlc2, zlc3, zlc4, zlc23, zlc99, zlc100, zlc9999999, zlc999999999999, zlc1073741824, zi_neg, zi_add, zi_sub, zi_mul, zl_neg, zl_add, zl_sub, zl_mul, zi_toInt, zi_nat, zi_le, zi_lt, zi_eq, zl_le, zl_lt, zl_eq, zl_toInt, zl_of32, zi_of64, zi_div, zl_div, zmodI, ↓reduceIte, zTle, zFle, zTlt, zFlt, zTeq, zFeq, if_true, if_false, and_self, and_true, true_and, and_false, false_and, or_self, or_true, true_or, or_false, false_or, not_true_eq_false, not_false_eq_true, zcastA, zcastL, znatC, zab, Int.reduceAdd, Int.reduceSub, Int.reduceMul, Int.reduceNeg, Int.reduceToNat, Nat.reduceAdd]
  · obtain ⟨m1, m2, m3, m4, m5, m6⟩ := hD.1 n (Nat.le_refl _)
    have e102 : ν 102 (288 + n) + zl (zP (st s) j * va k) = zl ((ln n).2.2.2.1 + va k * zP (st s) j) := by
      rw [m3, zl_add, Int.mul_comm (va k)]
    obtain ⟨ν', hν'⟩ : ∃ ν', ν' = zupl ν 102 (288 + n) (zl ((ln n).2.2.2.1 + va k * zP (st s) j)) := ⟨_, rfl⟩
    obtain ⟨r2, N, R1, R2⟩ := n_next S hL hg d len ν' hY e6 hk hM
    have fn : frN Y Y ν ν' := by
      rw [hν']
      exact frN_upl (frN_rf Y ν) (by omega)
    refine ⟨r2, ν', ?_, R1, R2, fn, ?_⟩
    · rw [B_X12_readCount_161]
      rw [hν'] at N ⊢
      simp (disch := omega) only [ix, zbi_some, zbl_some, zbv_some, zbi_none, zbl_none, zbv_none, zbi_ite, zbl_ite, zbv_ite, zbZ, zbO, zc_lt, zc_le, zc_ge, zc_gt, zc_eq, zk0, zk1, zk2, zk3, zk4, zk5, zk6, zk7, zk8, zk9, zk10, zk11, zk12, zk14, zk15, zk16, zk17, zk19, zk20, zk21, zk24, zk25, zk30, zk32, zk36, zk40, zk45, zk50, zk64, zk97, zk99, zk100, zk102, zk122, zk128, zk255, zk800, zk801, zk900, zk999, zk1000, zk1997, zk9999, zk10000, zk100000, zk99999, zk9999999, zk999999999, zk2147483647, zlc0, zlc1, zlc2, zlc3, zlc4, zlc23, zlc99, zlc100, zlc9999999, zlc999999999999, zlc1073741824, zi_neg, zi_add, zi_sub, zi_mul, zl_neg, zl_add, zl_sub, zl_mul, zi_toInt, zi_nat, zi_le, zi_lt, zi_eq, zl_le, zl_lt, zl_eq, zl_toInt, zl_of32, zi_of64, zi_div, zl_div, zmodI, ↓reduceIte, zTle, zFle, zTlt, zFlt, zTeq, zFeq, if_true, if_false, and_self, and_true, true_and, and_false, false_and, or_self, or_true, true_or, or_false, false_or, not_true_eq_false, not_false_eq_true, zcastA, zcastL, znatC, zab, Int.reduceAdd, Int.reduceSub, Int.reduceMul, Int.reduceNeg, Int.reduceToNat, Nat.reduceAdd]
      rw [e102]
      simp (disch := omega) only [N, B_X12_readCount_281, zbi_some, zbl_some, zbv_some, zbi_none, zbl_none, zbv_none, zbi_ite, zbl_ite, zbv_ite, zbZ, zbO, zc_lt, zc_le, zc_ge, zc_gt, zc_eq, zk0, zk1, zk2, zk3, zk4, zk5, zk6, zk7, zk8, zk9, zk10, zk11, zk12, zk14, zk15, zk16, zk17, zk19, zk20, zk21, zk24, zk25, zk30, zk32, zk36, zk40, zk45, zk50, zk64, zk97, zk99, zk100, zk102, zk122, zk128, zk255, zk800, zk801, zk900, zk999, zk1000, zk1997, zk9999, zk10000, zk100000, zk99999, zk9999999, zk999999999, zk2147483647, zlc0, zlc1, zlc2, zlc3, zlc4, zlc23, zlc99, zlc100, zlc9999999, zlc999999999999, zlc1073741824, zi_neg, zi_add, zi_sub, zi_mul, zl_neg, zl_add, zl_sub, zl_mul, zi_toInt, zi_nat, zi_le, zi_lt, zi_eq, zl_le, zl_lt, zl_eq, zl_toInt, zl_of32, zi_of64, zi_div, zl_div, zmodI, ↓reduceIte, zTle, zFle, zTlt, zFlt, zTeq, zFeq, if_true, if_false, and_self, and_true, true_and, and_false, false_and, or_self, or_true, true_or, or_false, false_or, not_true_eq_false, not_false_eq_true, zcastA, zcastL, znatC, zab, Int.reduceAdd, Int.reduceSub, Int.reduceMul, Int.reduceNeg, Int.reduceToNat, Nat.reduceAdd]
    · rw [addm_0]
      have a105 : ν' 105 = ν 105 := by rw [hν']; exact zupl_nx (by decide)
      have a102 : ∀ i, i ≠ 288 + n → ν' 102 i = ν 102 i := fun i hi => by rw [hν']; exact zupl_j hi
      refine mm_set hD rfl rfl (fun i hi => ⟨rfl, rfl, a102 _ (by omega), rfl, rfl, fun j hj => ⟨by rw [a105], rfl⟩⟩) hm3 ?_ (fun x _ _ => ⟨rfl, rfl⟩) (fun x hx e => ?_)
      · unfold Mlin
        rw [setL_n, a105]
        refine ⟨m1, m2, ?_, m4, m5, m6⟩
        rw [hν', zupl_at, if_pos ⟨rfl, rfl⟩]
      · obtain ⟨y1, y2⟩ := hD.2 x hx
        rw [if_pos e] at y1 y2
        rw [mk_len] at y1
        rw [lo01_S] at y2
        exact ⟨by rw [y1]; rfl, y2⟩
theorem cm_mrk (S : Strm g L K pl nn ty va) (hL : L ≤ 800) (hg : ∀ i, 0 ≤ g i ∧ g i ≤ 255) (hNP : NP sy sn st) {k : Nat} (hk : k + 1 < K) (d len : Nat) {Y : zMu} (ν : zNu) {r : Nat → Int32} (hY : CcY g Y) (e6 : r 6 = zi (L : Int)) (hM : MS pl nn ty va r (k + 1)) {n gg : Nat} (hn : n < 24) (hgg : gg < 8) {ln : Nat → Ln} (eg : (ln n).2.1 = (gg : Int)) (hD : MMd Y ν ln n) (hm3 : ∀ i, i < n → (ln i).2.2.2.2.length ≤ 3) (hm : (mkF ln (bkF ln n) (n + 1)).length < 2) (x2 x5 x6 : Int32) {s j : Nat} (hs : s < 4) (h1 : j < sn s) : ∃ r' Y' ν', zE zc_X12_readCount (zF zT0 (d + 3)) 161 [.ref 92, .int (zi ((288 + n : Nat) : Int)), .int x2, .int (zi (s : Int)), .int (zi 1), .int x5, .int x6, .int (zi (j : Int)), .int (zi (moF sn st s j)), zU, zU] [.long (zl (zP (st s) j))] (zm len (zrw Y 92 r) ν) = some (.int (zi (j : Int)), zm len (zrw Y' 92 r') ν') ∧ MS pl nn ty va r' (k + 2) ∧ fr4 r r' ∧ frN Y Y' ν ν' ∧ MMd Y' ν' (setL ln n (addm (ln n) 0 [(zP (st s) j, moF sn st s j)])) n := by
  obtain ⟨m1, m2, m3, m4, m5, m6⟩ := hD.1 n (Nat.le_refl _)
  rw [eg] at m2
  have ix : (288 + (n : Int)).toNat = 288 + n := by omega
  obtain ⟨mc, hmc⟩ : ∃ mc, mc = (mkF ln (bkF ln n) (n + 1)).length := ⟨_, rfl⟩
  obtain ⟨ml, hml⟩ : ∃ ml, ml = (ln n).2.2.2.2.length := ⟨_, rfl⟩
  have mlc : mc = (mkF ln (bkF ln n) n).length + ml := by rw [hmc, hml]; exact mk_len ln n
  have e110 : Y 110 gg = zi (mc : Int) := by
    have := (hD.2 gg hgg).1
    rw [if_pos eg.symm, ← hmc] at this
    exact this
  rw [← hml] at m5
  rw [← hmc] at hm
  have iy : (3 * (288 + (n : Int)) + (ml : Int)).toNat = 3 * (288 + n) + ml := by omega
  obtain ⟨Y', hY'⟩ : ∃ Y', Y' = zup (zup (zup Y 106 (3 * (288 + n) + ml) (zi (moF sn st s j))) 104 (288 + n) (zi ((ml : Int) + 1))) 110 gg (zi ((mc : Int) + 1)) := ⟨_, rfl⟩
  obtain ⟨ν', hν'⟩ : ∃ ν', ν' = zupl ν 105 (3 * (288 + n) + ml) (zl (zP (st s) j)) := ⟨_, rfl⟩
  have fn : frN Y Y' ν ν' := by
    rw [hν', hY']
    exact frN_upl (frN_up (frN_up (frN_up (frN_rf Y ν) (by omega)) (by omega)) (by omega)) (by omega)
  obtain ⟨r2, N, R1, R2⟩ := n_next S hL hg d len ν' (CcY_n hY fn) e6 hk hM
  refine ⟨r2, Y', ν', ?_, R1, R2, fn, ?_⟩
  · rw [B_X12_readCount_161]
    rw [hν', hY'] at N ⊢
    simp (disch := omega) only [ix, iy, zrw_n, m2, m5, e110, zup_zrw_n, zup_ne, B_X12_readCount_240, N, B_X12_readCount_281, zbi_some, zbl_some, zbv_some, zbi_none, zbl_none, zbv_none, zbi_ite, zbl_ite, zbv_ite, zbZ, zbO, zc_lt, zc_le, zc_ge, zc_gt, zc_eq, zk0, zk1, zk2, zk3, zk4, zk5, zk6, zk7, zk8, zk9, zk10, zk11, zk12, zk14, zk15, zk16, zk17, zk19, zk20, zk21, zk24, zk25, zk30, zk32, zk36, zk40, zk45, zk50, zk64, zk97, zk99, zk100, zk102, zk122, zk128, zk255, zk800, zk801, zk900, zk999, zk1000, zk1997, zk9999, zk10000, zk100000, zk99999, zk9999999, zk999999999, zk2147483647, zlc0, zlc1, zlc2, zlc3, zlc4, zlc23, zlc99, zlc100, zlc9999999, zlc999999999999, zlc1073741824, zi_neg, zi_add, zi_sub, zi_mul, zl_neg, zl_add, zl_sub, zl_mul, zi_toInt, zi_nat, zi_le, zi_lt, zi_eq, zl_le, zl_lt, zl_eq, zl_toInt, zl_of32, zi_of64, zi_div, zl_div, zmodI, ↓reduceIte, zTle, zFle, zTlt, zFlt, zTeq, zFeq, if_true, if_false, and_self, and_true, true_and, and_false, false_and, or_self, or_true, true_or, or_false, false_or, not_true_eq_false, not_false_eq_true, zcastA, zcastL, znatC, zab, Int.reduceAdd, Int.reduceSub, Int.reduceMul, Int.reduceNeg, Int.reduceToNat, Nat.reduceAdd]
  · rw [addm_m]
    have a102 : ν' 102 = ν 102 := by rw [hν']; exact zupl_nx (by decide)
    have a105 : ∀ i, i ≠ 3 * (288 + n) + ml → ν' 105 i = ν 105 i := fun i hi => by rw [hν']; exact zupl_j hi
    refine mm_set hD rfl rfl (fun i hi => ⟨?_, ?_, by rw [a102], ?_, ?_, fun j hj => ⟨a105 _ (by omega), ?_⟩⟩) hm3 ?_ (fun x hx e => ⟨?_, ?_⟩) (fun x hx e => ⟨?_, ?_⟩)
    · rw [hY']; simp (disch := omega) only [zup_at, upd_eq, upd_ne, ne_eq, Nat.reduceEqDiff, ↓reduceIte, if_true, if_false]
    · rw [hY']; simp (disch := omega) only [zup_at, upd_eq, upd_ne, ne_eq, Nat.reduceEqDiff, ↓reduceIte, if_true, if_false]
    · rw [hY']; simp (disch := omega) only [zup_at, upd_eq, upd_ne, ne_eq, Nat.reduceEqDiff, ↓reduceIte, if_true, if_false]
    · rw [hY']; simp (disch := omega) only [zup_at, upd_eq, upd_ne, ne_eq, Nat.reduceEqDiff, ↓reduceIte, if_true, if_false]
    · rw [hY']; simp (disch := omega) only [zup_at, upd_eq, upd_ne, ne_eq, Nat.reduceEqDiff, ↓reduceIte, if_true, if_false]
    · unfold Mlin
      rw [setL_n, a102]
      refine ⟨?_, ?_, m3, ?_, ?_, fun i p hp => ?_⟩
      · rw [hY']; simp (disch := omega) only [zup_at, upd_eq, upd_ne, ne_eq, Nat.reduceEqDiff, ↓reduceIte, if_true, if_false]; exact m1
      · rw [hY']; simp (disch := omega) only [zup_at, upd_eq, upd_ne, ne_eq, Nat.reduceEqDiff, ↓reduceIte, if_true, if_false]; rw [eg]; exact m2
      · rw [hY']; simp (disch := omega) only [zup_at, upd_eq, upd_ne, ne_eq, Nat.reduceEqDiff, ↓reduceIte, if_true, if_false]; exact m4
      · show Y' 104 (288 + n) = zi (((ln n).2.2.2.2 ++ [(zP (st s) j, moF sn st s j)]).length : Int)
        rw [List.length_append, ← hml, hY']
        simp (disch := omega) only [zup_at, upd_eq, upd_ne, ne_eq, Nat.reduceEqDiff, ↓reduceIte, if_true, if_false]
        rfl
      · have hp : ((ln n).2.2.2.2 ++ [(zP (st s) j, moF sn st s j)])[i]? = some p := hp
        rw [get_app, ← hml] at hp
        by_cases z : i = ml
        · rw [if_pos z] at hp
          cases hp
          subst z
          refine ⟨?_, ?_⟩
          · rw [hν', zupl_at, if_pos ⟨rfl, rfl⟩]
          · rw [hY']; simp (disch := omega) only [zup_at, upd_eq, upd_ne, ne_eq, Nat.reduceEqDiff, ↓reduceIte, if_true, if_false]
        · rw [if_neg z] at hp
          obtain ⟨y1, y2⟩ := m6 i p hp
          refine ⟨?_, ?_⟩
          · rw [a105 _ (by omega)]; exact y1
          · rw [hY']; simp (disch := omega) only [zup_at, upd_eq, upd_ne, ne_eq, Nat.reduceEqDiff, ↓reduceIte, if_true, if_false]; exact y2
    · have : x ≠ gg := fun q => e (by rw [q, eg])
      rw [hY']; simp (disch := omega) only [zup_at, upd_eq, upd_ne, ne_eq, Nat.reduceEqDiff, ↓reduceIte, if_true, if_false]
    · rw [hY']; simp (disch := omega) only [zup_at, upd_eq, upd_ne, ne_eq, Nat.reduceEqDiff, ↓reduceIte, if_true, if_false]
    · have : x = gg := by omega
      subst this
      rw [hY', List.length_append, ← hml]
      simp (disch := omega) only [zup_at, upd_eq, upd_ne, ne_eq, Nat.reduceEqDiff, ↓reduceIte, if_true, if_false]
      congr 1
      show (mc : Int) + 1 = _ + ((ml + 1 : Nat) : Int)
      omega
    · obtain ⟨y1, y2⟩ := hD.2 x hx
      rw [if_pos e, lo01_S] at y2
      rw [hY']; simp (disch := omega) only [zup_at, upd_eq, upd_ne, ne_eq, Nat.reduceEqDiff, ↓reduceIte, if_true, if_false]
      exact y2
end COUNTK

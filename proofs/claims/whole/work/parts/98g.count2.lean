/-! TABLET read: a COUNT and its SIGN that can be, lost; the class's -/
theorem get_app {α : Type} (ms : List α) (q : α) (j : Nat) : (ms ++ [q])[j]? = if j = ms.length then some q else ms[j]? := by
  rw [List.getElem?_append]
  by_cases h : j < ms.length
  · rw [if_pos h, if_neg (by omega)]
  · rw [if_neg h]
    by_cases z : j = ms.length
    · rw [if_pos z, z, Nat.sub_self]
      rfl
    · rw [if_neg z, List.getElem?_eq_none (l := [q]) (show 1 ≤ j - ms.length by omega), List.getElem?_eq_none (show ms.length ≤ j by omega)]
theorem mL_app (ms : List (Nat × Int × Int)) (q : Nat × Int × Int) (j : Nat) : mL (ms ++ [q]) j = if j = ms.length then (q.1 : Int) else mL ms j := by
  unfold mL
  rw [get_app]
  by_cases z : j = ms.length
  · simp only [if_pos z]
  · simp only [if_neg z]
theorem mU_app (ms : List (Nat × Int × Int)) (q : Nat × Int × Int) (j : Nat) : mU (ms ++ [q]) j = if j = ms.length then q.2.1 else mU ms j := by
  unfold mU
  rw [get_app]
  by_cases z : j = ms.length
  · simp only [if_pos z]
  · simp only [if_neg z]
theorem mW_app (ms : List (Nat × Int × Int)) (q : Nat × Int × Int) (j : Nat) : mW (ms ++ [q]) j = if j = ms.length then q.2.2 else mW ms j := by
  unfold mW
  rw [get_app]
  by_cases z : j = ms.length
  · simp only [if_pos z]
  · simp only [if_neg z]
theorem F_addMk (d len : Nat) (ν : zNu) {M : zMu} {ln : Nat → Ln} {n : Nat} (hn : n < 24) (hD : DMd M ln n) (u w : Int) (hm : (mkF ln (bkF ln n) (n + 1)).length < 2) : zF zT0 (d + 1) 20 [.ref 11, .int (zi (n : Int)), .int (zi u), .int (zi w)] (zm len M ν) = some (.null, zm len (zup (zup (zup (zup M 24 (2 * bkF ln n + (mkF ln (bkF ln n) (n + 1)).length) (zi (n : Int))) 25 (2 * bkF ln n + (mkF ln (bkF ln n) (n + 1)).length) (zi u)) 26 (2 * bkF ln n + (mkF ln (bkF ln n) (n + 1)).length) (zi w)) 23 (bkF ln n) (zi (((mkF ln (bkF ln n) (n + 1)).length : Int) + 1))) ν) := by
  have bl := bkF_le ln n
  have e17 := (hD.2.1 n (Nat.le_refl _)).2.2.2
  have e23 := (dm_blk hD).2.2.2.2.1
  have ix : (2 * (bkF ln n : Int) + ((mkF ln (bkF ln n) (n + 1)).length : Int)).toNat = 2 * bkF ln n + (mkF ln (bkF ln n) (n + 1)).length := by omega
  rw [B_X1_addMark]
  simp (disch := omega) only [e17, e23, ix, zbi_some, zbl_some, zbv_some, zbi_none, zbl_none, zbv_none, zbi_ite, zbl_ite, zbv_ite, zbZ, zbO, zc_lt, zc_le, zc_ge, zc_gt, zc_eq, zk0, zk1, zk2, zk3, zk4, zk5, zk6, zk7, zk8, zk9, zk10, zk11, zk12, zk14, zk15, zk16, zk17, zk19, zk20, zk21, zk24, zk25, zk30, zk32, zk36, zk40, zk45, zk50, zk64, zk97, zk99, zk100, zk102, zk122, zk128, zk255, zk800, zk801, zk900, zk999, zk1000, zk1997, zk9999, zk10000, zk100000, zk99999, zk9999999, zk999999999, zk2147483647, zlc0, zlc1, zlc2, zlc3, zlc4, zlc23, zlc99, zlc100, zlc9999999, zlc999999999999, zlc1073741824, zi_neg, zi_add, zi_sub, zi_mul, zl_neg, zl_add, zl_sub, zl_mul, zi_toInt, zi_nat, zi_le, zi_lt, zi_eq, zl_le, zl_lt, zl_eq, zl_toInt, zl_of32, zi_of64, zi_div, zl_div, zmodI, ↓reduceIte, zTle, zFle, zTlt, zFlt, zTeq, zFeq, if_true, if_false, and_self, and_true, true_and, and_false, false_and, or_self, or_true, true_or, or_false, false_or, not_true_eq_false, not_false_eq_true, zcastA, zcastL, znatC, zab, Int.reduceAdd, Int.reduceSub, Int.reduceMul, Int.reduceNeg, Int.reduceToNat, Nat.reduceAdd]
theorem dm_lo {M : zMu} {ln : Nat → Ln} {n : Nat} (hD : DMd M ln n) : M 22 (bkF ln n) = zi (if (ln n).2.2.1 = 1 then (n : Int) else loF ln (bkF ln n) n) := by
  have e := (dm_blk hD).2.2.1
  rw [loF_S] at e
  rw [e]
  by_cases z : (ln n).2.2.1 = 1
  · rw [if_pos ⟨rfl, z⟩, if_pos z]
  · rw [if_neg (fun q => z q.2), if_neg z]
theorem dm_mk {M : zMu} {ln : Nat → Ln} {n : Nat} (hD : DMd M ln n) : Mrow (mkF ln (bkF ln n) n ++ (ln n).2.2.2.2.map (fun p => (n, p))) M (bkF ln n) := by
  have e := (dm_blk hD).2.2.2
  rw [mkF_S, if_pos rfl] at e
  exact e
section COUNTO
variable {g : Nat → Int} {L K : Nat} {pl nn : Nat → Nat} {ty va : Nat → Int} {sy sn : Nat → Nat} {st : Nat → Nat → Int}
theorem cnt_num (S : Strm g L K pl nn ty va) (hL : L ≤ 800) (hN : NP sy sn st) {k : Nat} (hk : k < K) (d len : Nat) {M : zMu} (hT : TkX K pl ty va M k) (hX : NX sy sn st M) (ν : zNu) {n : Nat} (hn : n < 24) {ln : Nat → Ln} (hD : DMd M ln n) {s sa j : Nat} (hs : s < 4) (hsa : sa ≤ 6) (hj : sgB ty va k = (j : Int)) (h1 : j < sn s) (h2 : j < sa) (hv : 0 ≤ va k ∧ va k ≤ 9999) : (moF sn st s j < va k → ∃ M', zE zc_X1_readCount (zF zT0 (d + 3)) 91 [.ref 11, .int (zi (n : Int)), .int (zi (s : Int)), .int (zi (sa : Int)), .int (zi (va k)), .int (zi (sgB ty va k)), .int (zi 0), zU, zU] [] (zm len M ν) = some (.int (zi 0), zm len M' ν) ∧ M' 6 7 = zi 2 ∧ M' 6 8 = zi (pl k : Int) ∧ frF M M') ∧ (va k ≤ moF sn st s j → ∃ M', zE zc_X1_readCount (zF zT0 (d + 3)) 91 [.ref 11, .int (zi (n : Int)), .int (zi (s : Int)), .int (zi (sa : Int)), .int (zi (va k)), .int (zi (sgB ty va k)), .int (zi 0), zU, zU] [] (zm len M ν) = some (.int (zi 1), zm len M' ν) ∧ TkX K pl ty va M' (k + 1) ∧ DMd M' (setL ln n ((ln n).1, (ln n).2.1, (ln n).2.2.1, (ln n).2.2.2.1 + va k * zP (st s) j, (ln n).2.2.2.2)) n ∧ frF M M') := by
  have hKL := S.2.1.2.2.2
  have r := sgB_r S hk
  have b := hN.2.1 s hs
  have m := mo_r hN hs h1
  have H := has_y hN (d + 2) len hX ν hs h1
  have Q := F_mosc hN (d + 1) len hX ν hs h1
  rw [hj]
  refine ⟨fun hlt => ?_, fun hle => ?_⟩
  · obtain ⟨M', T, T1⟩ := g_fail (Nat.le_of_lt hk) (by omega) (d + 2) len hT ν 2
    refine ⟨M', ?_, T1⟩
    rw [B_X1_readCount_91]
    simp (disch := omega) only [H, B_X1_readCount_101, B_X1_readCount_115, Q, B_X1_readCount_139, T, B_X1_readCount_150, zbi_some, zbl_some, zbv_some, zbi_none, zbl_none, zbv_none, zbi_ite, zbl_ite, zbv_ite, zbZ, zbO, zc_lt, zc_le, zc_ge, zc_gt, zc_eq, zk0, zk1, zk2, zk3, zk4, zk5, zk6, zk7, zk8, zk9, zk10, zk11, zk12, zk14, zk15, zk16, zk17, zk19, zk20, zk21, zk24, zk25, zk30, zk32, zk36, zk40, zk45, zk50, zk64, zk97, zk99, zk100, zk102, zk122, zk128, zk255, zk800, zk801, zk900, zk999, zk1000, zk1997, zk9999, zk10000, zk100000, zk99999, zk9999999, zk999999999, zk2147483647, zlc0, zlc1, zlc2, zlc3, zlc4, zlc23, zlc99, zlc100, zlc9999999, zlc999999999999, zlc1073741824, zi_neg, zi_add, zi_sub, zi_mul, zl_neg, zl_add, zl_sub, zl_mul, zi_toInt, zi_nat, zi_le, zi_lt, zi_eq, zl_le, zl_lt, zl_eq, zl_toInt, zl_of32, zi_of64, zi_div, zl_div, zmodI, ↓reduceIte, zTle, zFle, zTlt, zFlt, zTeq, zFeq, if_true, if_false, and_self, and_true, true_and, and_false, false_and, or_self, or_true, true_or, or_false, false_or, not_true_eq_false, not_false_eq_true, zcastA, zcastL, znatC, zab, Int.reduceAdd, Int.reduceSub, Int.reduceMul, Int.reduceNeg, Int.reduceToNat, Nat.reduceAdd]
  · obtain ⟨V, hT1⟩ := g_move hk (by omega) (d + 2) len hT ν
    have f1 : frF M (zup M 6 6 (zi ((k : Int) + 1))) := frF_6 (frF_rf M) (by omega)
    have hX1 := NX_d hX f1
    have W := F_worc hN (d + 1) len hX1 ν hs h1
    have e14 : M 14 n = zi (ln n).2.2.2.1 := (hD.2.1 n (Nat.le_refl _)).2.2.1
    have e14' : (zup M 6 6 (zi ((k : Int) + 1))) 14 n = zi (ln n).2.2.2.1 := e14
    have fd : frD (zup M 6 6 (zi ((k : Int) + 1))) (zup (zup M 6 6 (zi ((k : Int) + 1))) 14 n (zi ((ln n).2.2.2.1 + va k * zP (st s) j))) := frD_up (frD_rf _) (by omega)
    have zm1 : (-1 : Int32) = zi (-1) := rfl
    refine ⟨zup (zup M 6 6 (zi ((k : Int) + 1))) 14 n (zi ((ln n).2.2.2.1 + va k * zP (st s) j)), ?_, Tk_d hT1 fd, ?_, frF_d f1 fd⟩
    · rw [B_X1_readCount_91]
      simp (disch := omega) only [H, B_X1_readCount_101, B_X1_readCount_115, Q, B_X1_readCount_139, B_X1_readCount_151, V, B_X1_readCount_158, zm1, W, B_X1_readCount_197, e14', zbi_some, zbl_some, zbv_some, zbi_none, zbl_none, zbv_none, zbi_ite, zbl_ite, zbv_ite, zbZ, zbO, zc_lt, zc_le, zc_ge, zc_gt, zc_eq, zk0, zk1, zk2, zk3, zk4, zk5, zk6, zk7, zk8, zk9, zk10, zk11, zk12, zk14, zk15, zk16, zk17, zk19, zk20, zk21, zk24, zk25, zk30, zk32, zk36, zk40, zk45, zk50, zk64, zk97, zk99, zk100, zk102, zk122, zk128, zk255, zk800, zk801, zk900, zk999, zk1000, zk1997, zk9999, zk10000, zk100000, zk99999, zk9999999, zk999999999, zk2147483647, zlc0, zlc1, zlc2, zlc3, zlc4, zlc23, zlc99, zlc100, zlc9999999, zlc999999999999, zlc1073741824, zi_neg, zi_add, zi_sub, zi_mul, zl_neg, zl_add, zl_sub, zl_mul, zi_toInt, zi_nat, zi_le, zi_lt, zi_eq, zl_le, zl_lt, zl_eq, zl_toInt, zl_of32, zi_of64, zi_div, zl_div, zmodI, ↓reduceIte, zTle, zFle, zTlt, zFlt, zTeq, zFeq, if_true, if_false, and_self, and_true, true_and, and_false, false_and, or_self, or_true, true_or, or_false, false_or, not_true_eq_false, not_false_eq_true, zcastA, zcastL, znatC, zab, Int.reduceAdd, Int.reduceSub, Int.reduceMul, Int.reduceNeg, Int.reduceToNat, Nat.reduceAdd]
    · refine dm_set hD rfl rfl ?_ ?_ ?_ (fun i hi => ?_) ?_ ?_ ?_ ?_ ?_ (fun c hc => ?_) ?_ (fun c hc => ?_) (fun r hr c i hc hi => ?_) (Mrow_c (dm_mk hD) ?_ (fun i hi => ⟨?_, ?_, ?_⟩))
      · simp (disch := omega) only [zup_at, upd_eq, upd_ne, ne_eq, Nat.reduceEqDiff, ↓reduceIte, if_true, if_false]
      · simp (disch := omega) only [zup_at, upd_eq, upd_ne, ne_eq, Nat.reduceEqDiff, ↓reduceIte, if_true, if_false]
      · simp (disch := omega) only [zup_at, upd_eq, upd_ne, ne_eq, Nat.reduceEqDiff, ↓reduceIte, if_true, if_false]
      · simp (disch := omega) only [zup_at, upd_eq, upd_ne, ne_eq, Nat.reduceEqDiff, ↓reduceIte, if_true, if_false]
      · simp (disch := omega) only [zup_at, upd_eq, upd_ne, ne_eq, Nat.reduceEqDiff, ↓reduceIte, if_true, if_false]
      · simp (disch := omega) only [zup_at, upd_eq, upd_ne, ne_eq, Nat.reduceEqDiff, ↓reduceIte, if_true, if_false]
      · simp (disch := omega) only [zup_at, upd_eq, upd_ne, ne_eq, Nat.reduceEqDiff, ↓reduceIte, if_true, if_false]
      · simp (disch := omega) only [zup_at, upd_eq, upd_ne, ne_eq, Nat.reduceEqDiff, ↓reduceIte, if_true, if_false]
      · simp (disch := omega) only [zup_at, upd_eq, upd_ne, ne_eq, Nat.reduceEqDiff, ↓reduceIte, if_true, if_false]
      · simp (disch := omega) only [zup_at, upd_eq, upd_ne, ne_eq, Nat.reduceEqDiff, ↓reduceIte, if_true, if_false]
      · simp (disch := omega) only [zup_at, upd_eq, upd_ne, ne_eq, Nat.reduceEqDiff, ↓reduceIte, if_true, if_false]
        exact dm_lo hD
      · simp (disch := omega) only [zup_at, upd_eq, upd_ne, ne_eq, Nat.reduceEqDiff, ↓reduceIte, if_true, if_false]
      · rcases hr with q | q | q <;> subst q <;> simp (disch := omega) only [zup_at, upd_eq, upd_ne, ne_eq, Nat.reduceEqDiff, ↓reduceIte, if_true, if_false]
      · simp (disch := omega) only [zup_at, upd_eq, upd_ne, ne_eq, Nat.reduceEqDiff, ↓reduceIte, if_true, if_false]
      · simp (disch := omega) only [zup_at, upd_eq, upd_ne, ne_eq, Nat.reduceEqDiff, ↓reduceIte, if_true, if_false]
      · simp (disch := omega) only [zup_at, upd_eq, upd_ne, ne_eq, Nat.reduceEqDiff, ↓reduceIte, if_true, if_false]
      · simp (disch := omega) only [zup_at, upd_eq, upd_ne, ne_eq, Nat.reduceEqDiff, ↓reduceIte, if_true, if_false]
theorem cnt_mrk (S : Strm g L K pl nn ty va) (hL : L ≤ 800) (hN : NP sy sn st) {k : Nat} (hk : k < K) (d len : Nat) {M : zMu} (hT : TkX K pl ty va M k) (hX : NX sy sn st M) (ν : zNu) {n : Nat} (hn : n < 24) {ln : Nat → Ln} (hD : DMd M ln n) {s sa j : Nat} (hs : s < 4) (hsa : sa ≤ 6) (hj : sgB ty va k = (j : Int)) (h1 : j < sn s) (h2 : j < sa) (hm : (mkF ln (bkF ln n) (n + 1)).length < 2) (x : Int32) : ∃ M', zE zc_X1_readCount (zF zT0 (d + 3)) 91 [.ref 11, .int (zi (n : Int)), .int (zi (s : Int)), .int (zi (sa : Int)), .int x, .int (zi (sgB ty va k)), .int (zi 1), zU, zU] [] (zm len M ν) = some (.int (zi 1), zm len M' ν) ∧ TkX K pl ty va M' (k + 1) ∧ DMd M' (setL ln n ((ln n).1, (ln n).2.1, (ln n).2.2.1, (ln n).2.2.2.1, (ln n).2.2.2.2 ++ [(zP (st s) j, moF sn st s j)])) n ∧ frF M M' := by
  have hKL := S.2.1.2.2.2
  have r := sgB_r S hk
  have b := hN.2.1 s hs
  have m := mo_r hN hs h1
  have bl := bkF_le ln n
  have H := has_y hN (d + 2) len hX ν hs h1
  rw [hj]
  obtain ⟨V, hT1⟩ := g_move hk (by omega) (d + 2) len hT ν
  have f1 : frF M (zup M 6 6 (zi ((k : Int) + 1))) := frF_6 (frF_rf M) (by omega)
  have hX1 := NX_d hX f1
  have W := F_worc hN (d + 1) len hX1 ν hs h1
  have Q := F_mosc hN (d + 1) len hX1 ν hs h1
  have hD1 : DMd (zup M 6 6 (zi ((k : Int) + 1))) ln n := hD
  have A := F_addMk (d + 2) len ν hn hD1 (zP (st s) j) (moF sn st s j) hm
  have zm1 : (-1 : Int32) = zi (-1) := rfl
  obtain ⟨mc, hmc⟩ : ∃ mc, mc = (mkF ln (bkF ln n) (n + 1)).length := ⟨_, rfl⟩
  have mc2 : mc = (mkF ln (bkF ln n) n ++ (ln n).2.2.2.2.map (fun p => (n, p))).length := by rw [hmc, mkF_S, if_pos rfl]
  rw [← hmc] at A hm
  obtain ⟨bb, hbb⟩ : ∃ bb, bb = bkF ln n := ⟨_, rfl⟩
  rw [← hbb] at A
  obtain ⟨M2, hM2⟩ : ∃ M2, M2 = zup (zup (zup (zup (zup M 6 6 (zi ((k : Int) + 1))) 24 (2 * bb + mc) (zi (n : Int))) 25 (2 * bb + mc) (zi (zP (st s) j))) 26 (2 * bb + mc) (zi (moF sn st s j))) 23 bb (zi ((mc : Int) + 1)) := ⟨_, rfl⟩
  rw [← hM2] at A
  have fd : frD (zup M 6 6 (zi ((k : Int) + 1))) M2 := by
    rw [hM2]
    exact frD_up (frD_up (frD_up (frD_up (frD_rf _) (by omega)) (by omega)) (by omega)) (by omega)
  refine ⟨M2, ?_, Tk_d hT1 fd, ?_, frF_d f1 fd⟩
  · rw [B_X1_readCount_91]
    simp (disch := omega) only [H, B_X1_readCount_101, B_X1_readCount_115, B_X1_readCount_151, V, B_X1_readCount_158, zm1, W, B_X1_readCount_197, Q, B_X1_readCount_218, A, B_X1_readCount_221, zbi_some, zbl_some, zbv_some, zbi_none, zbl_none, zbv_none, zbi_ite, zbl_ite, zbv_ite, zbZ, zbO, zc_lt, zc_le, zc_ge, zc_gt, zc_eq, zk0, zk1, zk2, zk3, zk4, zk5, zk6, zk7, zk8, zk9, zk10, zk11, zk12, zk14, zk15, zk16, zk17, zk19, zk20, zk21, zk24, zk25, zk30, zk32, zk36, zk40, zk45, zk50, zk64, zk97, zk99, zk100, zk102, zk122, zk128, zk255, zk800, zk801, zk900, zk999, zk1000, zk1997, zk9999, zk10000, zk100000, zk99999, zk9999999, zk999999999, zk2147483647, zlc0, zlc1, zlc2, zlc3, zlc4, zlc23, zlc99, zlc100, zlc9999999, zlc999999999999, zlc1073741824, zi_neg, zi_add, zi_sub, zi_mul, zl_neg, zl_add, zl_sub, zl_mul, zi_toInt, zi_nat, zi_le, zi_lt, zi_eq, zl_le, zl_lt, zl_eq, zl_toInt, zl_of32, zi_of64, zi_div, zl_div, zmodI, ↓reduceIte, zTle, zFle, zTlt, zFlt, zTeq, zFeq, if_true, if_false, and_self, and_true, true_and, and_false, false_and, or_self, or_true, true_or, or_false, false_or, not_true_eq_false, not_false_eq_true, zcastA, zcastL, znatC, zab, Int.reduceAdd, Int.reduceSub, Int.reduceMul, Int.reduceNeg, Int.reduceToNat, Nat.reduceAdd]
  · obtain ⟨mr1, mr2, mr3⟩ := dm_mk hD
    refine dm_set hD rfl rfl ?_ ?_ ?_ (fun i hi => ?_) ?_ ?_ ?_ ?_ ?_ (fun c hc => ?_) ?_ (fun c hc => ?_) (fun r hr c i hc hi => ?_) ?_
    · rw [hM2]; simp (disch := omega) only [zup_at, upd_eq, upd_ne, ne_eq, Nat.reduceEqDiff, ↓reduceIte, if_true, if_false]
    · rw [hM2]; simp (disch := omega) only [zup_at, upd_eq, upd_ne, ne_eq, Nat.reduceEqDiff, ↓reduceIte, if_true, if_false]
    · rw [hM2]; simp (disch := omega) only [zup_at, upd_eq, upd_ne, ne_eq, Nat.reduceEqDiff, ↓reduceIte, if_true, if_false]
    · rw [hM2]; simp (disch := omega) only [zup_at, upd_eq, upd_ne, ne_eq, Nat.reduceEqDiff, ↓reduceIte, if_true, if_false]
    · rw [hM2]; simp (disch := omega) only [zup_at, upd_eq, upd_ne, ne_eq, Nat.reduceEqDiff, ↓reduceIte, if_true, if_false]
      exact (hD.2.1 n (Nat.le_refl _)).2.2.1
    · rw [hM2]; simp (disch := omega) only [zup_at, upd_eq, upd_ne, ne_eq, Nat.reduceEqDiff, ↓reduceIte, if_true, if_false]
    · rw [hM2]; simp (disch := omega) only [zup_at, upd_eq, upd_ne, ne_eq, Nat.reduceEqDiff, ↓reduceIte, if_true, if_false]
    · rw [hM2]; simp (disch := omega) only [zup_at, upd_eq, upd_ne, ne_eq, Nat.reduceEqDiff, ↓reduceIte, if_true, if_false]
    · rw [hM2]; simp (disch := omega) only [zup_at, upd_eq, upd_ne, ne_eq, Nat.reduceEqDiff, ↓reduceIte, if_true, if_false]
    · rw [hM2]; simp (disch := omega) only [zup_at, upd_eq, upd_ne, ne_eq, Nat.reduceEqDiff, ↓reduceIte, if_true, if_false]
    · rw [hM2]; simp (disch := omega) only [zup_at, upd_eq, upd_ne, ne_eq, Nat.reduceEqDiff, ↓reduceIte, if_true, if_false]
      exact dm_lo hD
    · rw [← hbb] at hc
      rw [hM2]; simp (disch := omega) only [zup_at, upd_eq, upd_ne, ne_eq, Nat.reduceEqDiff, ↓reduceIte, if_true, if_false]
    · rw [← hbb] at hc
      rw [hM2]
      rcases hr with q | q | q <;> subst q <;> simp (disch := omega) only [zup_at, upd_eq, upd_ne, ne_eq, Nat.reduceEqDiff, ↓reduceIte, if_true, if_false]
    · rw [List.map_append, ← List.append_assoc, ← hbb]
      rw [← hbb] at mr1 mr2 mr3 mc2
      refine ⟨by rw [List.length_append, ← mc2]; show mc + 1 ≤ 2; omega, ?_, fun i hi => ?_⟩
      · rw [List.length_append, ← mc2, hM2]
        simp (disch := omega) only [zup_at, upd_eq, upd_ne, ne_eq, Nat.reduceEqDiff, ↓reduceIte, if_true, if_false]
        rfl
      · obtain ⟨y1, y2, y3⟩ := mr3 i hi
        show M2 24 (2 * bb + i) = zi (mL (_ ++ [(n, zP (st s) j, moF sn st s j)]) i) ∧ M2 25 (2 * bb + i) = zi (mU (_ ++ [(n, zP (st s) j, moF sn st s j)]) i) ∧ M2 26 (2 * bb + i) = zi (mW (_ ++ [(n, zP (st s) j, moF sn st s j)]) i)
        rw [mL_app, mU_app, mW_app, ← mc2, hM2]
        by_cases z : i = mc
        · subst z
          simp only [if_true]
          refine ⟨?_, ?_, ?_⟩ <;> simp (disch := omega) only [zup_at, upd_eq, upd_ne, ne_eq, Nat.reduceEqDiff, ↓reduceIte, if_true, if_false]
        · simp only [if_neg z]
          refine ⟨?_, ?_, ?_⟩
          · simp (disch := omega) only [zup_at, upd_eq, upd_ne, ne_eq, Nat.reduceEqDiff, ↓reduceIte, if_true, if_false]; exact y1
          · simp (disch := omega) only [zup_at, upd_eq, upd_ne, ne_eq, Nat.reduceEqDiff, ↓reduceIte, if_true, if_false]; exact y2
          · simp (disch := omega) only [zup_at, upd_eq, upd_ne, ne_eq, Nat.reduceEqDiff, ↓reduceIte, if_true, if_false]; exact y3
theorem lost_c (S : Strm g L K pl nn ty va) (hL : L ≤ 800) {k : Nat} (hk : k < K) (d len : Nat) {M : zMu} (hT : TkX K pl ty va M k) (ν : zNu) {n : Nat} (hn : n < 24) {ln : Nat → Ln} (hD : DMd M ln n) : (loF ln (bkF ln n) (n + 1) ≠ -1 → ∃ M', zF zT0 (d + 2) 18 [.ref 11, .int (zi (n : Int))] (zm len M ν) = some (.int (zi 0), zm len M' ν) ∧ M' 6 7 = zi 3 ∧ M' 6 8 = zi (pl k : Int) ∧ frF M M') ∧ (loF ln (bkF ln n) (n + 1) = -1 → ∃ M', zF zT0 (d + 2) 18 [.ref 11, .int (zi (n : Int))] (zm len M ν) = some (.int (zi 1), zm len M' ν) ∧ TkX K pl ty va M' (k + 1) ∧ DMd M' (setL ln n ((ln n).1, (ln n).2.1, 1, (ln n).2.2.2.1, (ln n).2.2.2.2)) n ∧ frF M M') := by
  have hKL := S.2.1.2.2.2
  have bl := bkF_le ln n
  have lr := loF_r ln (bkF ln n) (n + 1)
  have e17 := (hD.2.1 n (Nat.le_refl _)).2.2.2
  have e22 := (dm_blk hD).2.2.1
  have zm1 : (-1 : Int32) = zi (-1) := rfl
  refine ⟨fun h => ?_, fun h => ?_⟩
  · obtain ⟨M', T, T1⟩ := g_fail (Nat.le_of_lt hk) (by omega) d len hT ν 3
    refine ⟨M', ?_, T1⟩
    rw [B_X1_readLost]
    simp (disch := omega) only [e17, e22, zm1, h, T, B_X1_readLost_25, zbi_some, zbl_some, zbv_some, zbi_none, zbl_none, zbv_none, zbi_ite, zbl_ite, zbv_ite, zbZ, zbO, zc_lt, zc_le, zc_ge, zc_gt, zc_eq, zk0, zk1, zk2, zk3, zk4, zk5, zk6, zk7, zk8, zk9, zk10, zk11, zk12, zk14, zk15, zk16, zk17, zk19, zk20, zk21, zk24, zk25, zk30, zk32, zk36, zk40, zk45, zk50, zk64, zk97, zk99, zk100, zk102, zk122, zk128, zk255, zk800, zk801, zk900, zk999, zk1000, zk1997, zk9999, zk10000, zk100000, zk99999, zk9999999, zk999999999, zk2147483647, zlc0, zlc1, zlc2, zlc3, zlc4, zlc23, zlc99, zlc100, zlc9999999, zlc999999999999, zlc1073741824, zi_neg, zi_add, zi_sub, zi_mul, zl_neg, zl_add, zl_sub, zl_mul, zi_toInt, zi_nat, zi_le, zi_lt, zi_eq, zl_le, zl_lt, zl_eq, zl_toInt, zl_of32, zi_of64, zi_div, zl_div, zmodI, ↓reduceIte, zTle, zFle, zTlt, zFlt, zTeq, zFeq, if_true, if_false, and_self, and_true, true_and, and_false, false_and, or_self, or_true, true_or, or_false, false_or, not_true_eq_false, not_false_eq_true, zcastA, zcastL, znatC, zab, Int.reduceAdd, Int.reduceSub, Int.reduceMul, Int.reduceNeg, Int.reduceToNat, Nat.reduceAdd]
  · have hD1 : TkX K pl ty va (zup M 22 (bkF ln n) (zi (n : Int))) k := hT
    obtain ⟨V, hT1⟩ := g_move hk (by omega) d len hD1 ν
    rw [h] at e22
    refine ⟨_, ?_, hT1, ?_, frF_6 ⟨fun r h6 hr => zup_ne _ _ _ (by omega), fun _ _ _ _ => rfl⟩ (by omega)⟩
    · rw [B_X1_readLost]
      simp (disch := omega) only [e17, e22, zm1, V, B_X1_readLost_40, zbi_some, zbl_some, zbv_some, zbi_none, zbl_none, zbv_none, zbi_ite, zbl_ite, zbv_ite, zbZ, zbO, zc_lt, zc_le, zc_ge, zc_gt, zc_eq, zk0, zk1, zk2, zk3, zk4, zk5, zk6, zk7, zk8, zk9, zk10, zk11, zk12, zk14, zk15, zk16, zk17, zk19, zk20, zk21, zk24, zk25, zk30, zk32, zk36, zk40, zk45, zk50, zk64, zk97, zk99, zk100, zk102, zk122, zk128, zk255, zk800, zk801, zk900, zk999, zk1000, zk1997, zk9999, zk10000, zk100000, zk99999, zk9999999, zk999999999, zk2147483647, zlc0, zlc1, zlc2, zlc3, zlc4, zlc23, zlc99, zlc100, zlc9999999, zlc999999999999, zlc1073741824, zi_neg, zi_add, zi_sub, zi_mul, zl_neg, zl_add, zl_sub, zl_mul, zi_toInt, zi_nat, zi_le, zi_lt, zi_eq, zl_le, zl_lt, zl_eq, zl_toInt, zl_of32, zi_of64, zi_div, zl_div, zmodI, ↓reduceIte, zTle, zFle, zTlt, zFlt, zTeq, zFeq, if_true, if_false, and_self, and_true, true_and, and_false, false_and, or_self, or_true, true_or, or_false, false_or, not_true_eq_false, not_false_eq_true, zcastA, zcastL, znatC, zab, Int.reduceAdd, Int.reduceSub, Int.reduceMul, Int.reduceNeg, Int.reduceToNat, Nat.reduceAdd]
    · refine dm_set hD rfl rfl ?_ ?_ ?_ (fun i hi => ?_) ?_ ?_ ?_ ?_ ?_ (fun c hc => ?_) ?_ (fun c hc => ?_) (fun r hr c i hc hi => ?_) (Mrow_c (dm_mk hD) ?_ (fun i hi => ⟨?_, ?_, ?_⟩))
      · simp (disch := omega) only [zup_at, upd_eq, upd_ne, ne_eq, Nat.reduceEqDiff, ↓reduceIte, if_true, if_false]
      · simp (disch := omega) only [zup_at, upd_eq, upd_ne, ne_eq, Nat.reduceEqDiff, ↓reduceIte, if_true, if_false]
      · simp (disch := omega) only [zup_at, upd_eq, upd_ne, ne_eq, Nat.reduceEqDiff, ↓reduceIte, if_true, if_false]
      · simp (disch := omega) only [zup_at, upd_eq, upd_ne, ne_eq, Nat.reduceEqDiff, ↓reduceIte, if_true, if_false]
      · simp (disch := omega) only [zup_at, upd_eq, upd_ne, ne_eq, Nat.reduceEqDiff, ↓reduceIte, if_true, if_false]
        exact (hD.2.1 n (Nat.le_refl _)).2.2.1
      · simp (disch := omega) only [zup_at, upd_eq, upd_ne, ne_eq, Nat.reduceEqDiff, ↓reduceIte, if_true, if_false]
      · simp (disch := omega) only [zup_at, upd_eq, upd_ne, ne_eq, Nat.reduceEqDiff, ↓reduceIte, if_true, if_false]
      · simp (disch := omega) only [zup_at, upd_eq, upd_ne, ne_eq, Nat.reduceEqDiff, ↓reduceIte, if_true, if_false]
      · simp (disch := omega) only [zup_at, upd_eq, upd_ne, ne_eq, Nat.reduceEqDiff, ↓reduceIte, if_true, if_false]
      · simp (disch := omega) only [zup_at, upd_eq, upd_ne, ne_eq, Nat.reduceEqDiff, ↓reduceIte, if_true, if_false]
      · simp (disch := omega) only [zup_at, upd_eq, upd_ne, ne_eq, Nat.reduceEqDiff, ↓reduceIte, if_true, if_false]
      · simp (disch := omega) only [zup_at, upd_eq, upd_ne, ne_eq, Nat.reduceEqDiff, ↓reduceIte, if_true, if_false]
      · rcases hr with q | q | q <;> subst q <;> simp (disch := omega) only [zup_at, upd_eq, upd_ne, ne_eq, Nat.reduceEqDiff, ↓reduceIte, if_true, if_false]
      · simp (disch := omega) only [zup_at, upd_eq, upd_ne, ne_eq, Nat.reduceEqDiff, ↓reduceIte, if_true, if_false]
      · simp (disch := omega) only [zup_at, upd_eq, upd_ne, ne_eq, Nat.reduceEqDiff, ↓reduceIte, if_true, if_false]
      · simp (disch := omega) only [zup_at, upd_eq, upd_ne, ne_eq, Nat.reduceEqDiff, ↓reduceIte, if_true, if_false]
      · simp (disch := omega) only [zup_at, upd_eq, upd_ne, ne_eq, Nat.reduceEqDiff, ↓reduceIte, if_true, if_false]
end COUNTO

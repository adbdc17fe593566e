/-! TABLET: tablet(k) agrees, whole -/
theorem Rtab_e {μ μ2 : zMu} {ν ν2 : zNu} (h : RtabM μ ν) (e28 : μ2 28 = μ 28) (e99 : μ2 99 = μ 99) (e29 : μ2 29 = μ 29) (e98 : μ2 98 = μ 98) (e30 : μ2 30 = μ 30) (e31 : μ2 31 = μ 31) (e34 : μ2 34 = μ 34) (e109 : μ2 109 = μ 109) (e32 : μ2 32 = μ 32) (e33 : μ2 33 = μ 33) (e100 : ∀ i, i < 288 → μ2 100 i = μ 100 i ∧ μ2 101 i = μ 101 i) (n7 : ν2 107 = ν 107) (n8 : ν2 108 = ν 108) : RtabM μ2 ν2 := by
  intro k hk
  obtain ⟨o1, o2, o3, o4⟩ := h k hk
  rw [e28, e99, e29, e98]
  refine ⟨o1, o2, o3, fun i hi => ?_⟩
  obtain ⟨a, b⟩ := e100 (24 * k + i) (by omega)
  rw [e30, a, e31, b, e34, e109, e32, e33, n7, n8]
  exact o4 i hi
theorem Rtab_new {μ μ2 : zMu} {ν ν2 : zNu} (h : RtabM μ ν) {ln : Nat → Ln} {n k : Nat} (hk : k < 12) (hn : n ≤ 24) (hV : LV ln n) {y : Int32} (hy : 0 ≤ y.toInt ∧ y.toInt ≤ 99) (e28 : μ2 28 = upd (μ 28) k y) (e29 : μ2 29 = upd (μ 29) k (zi (n : Int))) (e30 : μ2 30 = kst (μ 30) (fun i => (ln i).1) k n) (e31 : μ2 31 = kst (μ 31) (fun i => (ln i).2.1) k n) (e32 : μ2 32 = kst (μ 32) (fun i => sLo ln n (bkF ln i) i) k n) (e33 : μ2 33 = kst (μ 33) (fun i => sHi ln n (bkF ln i) i) k n) (e34 : μ2 34 = kst (μ 34) (fun i => fiF ln n (bkF ln i)) k n) (e98 : μ2 98 k = zi (n : Int)) (e99 : μ2 99 k = y) (f98 : ∀ i, i ≠ k → μ2 98 i = μ 98 i ∧ μ2 99 i = μ 99 i) (e100 : ∀ i, i < n → μ2 100 (24 * k + i) = zi (ln i).1 ∧ μ2 101 (24 * k + i) = zi (ln i).2.1) (f100 : ∀ i, i < 288 → (i < 24 * k ∨ 24 * k + 24 ≤ i) → (μ2 100 i = μ 100 i ∧ μ2 101 i = μ 101 i) ∧ μ2 109 i = μ 109 i ∧ ν2 107 i = ν 107 i ∧ ν2 108 i = ν 108 i) (hS : ∀ i, i < n → SolI (24 * k) ln n μ2 ν2 i) : RtabM μ2 ν2 := by
  intro k0 hk0
  obtain ⟨o1, o2, o3, o4⟩ := h k0 hk0
  by_cases z : k0 = k
  · subst z
    have tn : (zi (n : Int)).toInt = (n : Int) := zi_toInt (by omega)
    rw [e28, e29, upd_eq, upd_eq, e98, e99, tn]
    refine ⟨⟨rfl, by omega, by omega⟩, ⟨rfl, by omega, by omega⟩, fun q => by omega, fun i hi => ?_⟩
    have hi' : i < n := by omega
    obtain ⟨a, b⟩ := e100 i hi'
    obtain ⟨s1, s2⟩ := hS i hi'
    obtain ⟨v1, v2, _⟩ := hV.1 i hi'
    have sb := SF_b hV hn (bkF ln i)
    obtain ⟨bd1, bd2⟩ := SF_bd hV hi'
    rw [e30, kst_i _ _ _ hi', a, e31, kst_i _ _ _ hi', b, e34, kst_i _ _ _ hi', s1, e32, kst_i _ _ _ hi', e33, kst_i _ _ _ hi', zi_toInt (by omega), zi_toInt (by omega)]
    have fb : 0 ≤ fiF ln n (bkF ln i) ∧ fiF ln n (bkF ln i) ≤ 999999999 ∧ (fiF ln n (bkF ln i) = 0 ↔ (SF ln n (bkF ln i)).1 = 0) := by
      unfold fiF
      by_cases q : 999999999 < (SF ln n (bkF ln i)).1
      · rw [if_pos q]
        omega
      · rw [if_neg q]
        omega
    have tf : (zi (fiF ln n (bkF ln i))).toInt = fiF ln n (bkF ln i) := zi_toInt (by omega)
    rw [tf]
    refine ⟨⟨rfl, by omega, by omega⟩, ⟨rfl, by omega, by omega⟩, ⟨rfl, fb.1⟩, fun q => ?_, fun q => ?_⟩
    · have z0 := fb.2.2.mp q
      unfold sLo sHi
      rw [if_pos z0, if_pos z0]
      exact ⟨rfl, rfl⟩
    · have z0 : (SF ln n (bkF ln i)).1 ≠ 0 := fun w => q (fb.2.2.mpr w)
      obtain ⟨w1, w2⟩ := s2 z0
      unfold sLo sHi
      rw [if_neg z0, if_neg z0, w1, w2, zl_toInt (by omega), zl_toInt (by omega), zi_toInt (by omega), zi_toInt (by omega)]
      exact ⟨rfl, rfl⟩
  · obtain ⟨g1, g2⟩ := f98 k0 z
    rw [e28, e29, upd_ne _ _ z, upd_ne _ _ z, g1, g2]
    refine ⟨o1, o2, o3, fun i hi => ?_⟩
    have out : 24 * k0 + i < 24 * k ∨ 24 * k + 24 ≤ 24 * k0 + i := by omega
    obtain ⟨⟨a, b⟩, c, e, f⟩ := f100 (24 * k0 + i) (by omega) out
    rw [e30, kst_o _ _ _ _ (by omega), a, e31, kst_o _ _ _ _ (by omega), b, e34, kst_o _ _ _ _ (by omega), c, e32, kst_o _ _ _ _ (by omega), e33, kst_o _ _ _ _ (by omega), e, f]
    exact o4 i hi
theorem keepM_r {M : zMu} {ln : Nat → Ln} {n k m : Nat} {y : Int32} {r : Nat} (h : r < 28 ∨ 34 < r) : keepM M ln n k m y r = M r := by
  unfold keepM
  rw [zrw_n _ _ (by omega), zrw_n _ _ (by omega), zrw_n _ _ (by omega), zrw_n _ _ (by omega), zrw_n _ _ (by omega), zup_ne _ _ _ (by omega), zup_ne _ _ _ (by omega)]
theorem F_has9n (d len : Nat) {a : Int} (ha : -2147483648 ≤ a ∧ a < 2147483648) (h : a < 0 ∨ 11 < a) (μ : zMu) (ν : zNu) : zF zT0 (d + 2) 111 [.ref 27, .int (zi a)] (zm len μ ν) = some (.int (zi 0), zm len μ ν) := by
  rw [B_X9_has]
  by_cases z : a < 0
  · simp (disch := omega) only [B_X11_within, B_X9_has_7, z, zbi_some, zbl_some, zbv_some, zbi_none, zbl_none, zbv_none, zbi_ite, zbl_ite, zbv_ite, zbZ, zbO, zc_lt, zc_le, zc_ge, zc_gt, zc_eq, zk0, zk1, zk2, zk3, zk4, zk5, zk6, zk7, zk8, zk9, zk10, zk11, zk12, zk14, zk15, zk16, zk17, zk19, zk20, zk21, zk24, zk25, zk30, zk32, zk36, zk40, zk45, zk50, zk64, zk97, zk99, zk100, zk102, zk122, zk128, zk255, zk800, zk801, zk900, zk999, zk1000, zk1997, zk9999, zk10000, zk100000, zk99999, zk9999999, zk999999999, zk2147483647, zlc0, zlc1, zlc2, zlc3, zlc4, zlc23, zlc99, zlc100, zlc9999999, zlc999999999999, zlc1073741824, zi_neg, zi_add, zi_sub, zi_mul, zl_neg, zl_add, zl_sub, zl_mul, zi_toInt, zi_nat, zi_le, zi_lt, zi_eq, zl_le, zl_lt, zl_eq, zl_toInt, zl_of32, zi_of64, zi_div, zl_div, zmodI, ↓reduceIte, zTle, zFle, zTlt, zFlt, zTeq, zFeq, if_true, if_false, and_self, and_true, true_and, and_false, false_and, or_self, or_true, true_or, or_false, false_or, not_true_eq_false, not_false_eq_true, zcastA, zcastL, znatC, zab, Int.reduceAdd, Int.reduceSub, Int.reduceMul, Int.reduceNeg, Int.reduceToNat, Nat.reduceAdd]
  · simp (disch := omega) only [B_X11_within, B_X9_has_7, z, zbi_some, zbl_some, zbv_some, zbi_none, zbl_none, zbv_none, zbi_ite, zbl_ite, zbv_ite, zbZ, zbO, zc_lt, zc_le, zc_ge, zc_gt, zc_eq, zk0, zk1, zk2, zk3, zk4, zk5, zk6, zk7, zk8, zk9, zk10, zk11, zk12, zk14, zk15, zk16, zk17, zk19, zk20, zk21, zk24, zk25, zk30, zk32, zk36, zk40, zk45, zk50, zk64, zk97, zk99, zk100, zk102, zk122, zk128, zk255, zk800, zk801, zk900, zk999, zk1000, zk1997, zk9999, zk10000, zk100000, zk99999, zk9999999, zk999999999, zk2147483647, zlc0, zlc1, zlc2, zlc3, zlc4, zlc23, zlc99, zlc100, zlc9999999, zlc999999999999, zlc1073741824, zi_neg, zi_add, zi_sub, zi_mul, zl_neg, zl_add, zl_sub, zl_mul, zi_toInt, zi_nat, zi_le, zi_lt, zi_eq, zl_le, zl_lt, zl_eq, zl_toInt, zl_of32, zi_of64, zi_div, zl_div, zmodI, ↓reduceIte, zTle, zFle, zTlt, zFlt, zTeq, zFeq, if_true, if_false, and_self, and_true, true_and, and_false, false_and, or_self, or_true, true_or, or_false, false_or, not_true_eq_false, not_false_eq_true, zcastA, zcastL, znatC, zab, Int.reduceAdd, Int.reduceSub, Int.reduceMul, Int.reduceNeg, Int.reduceToNat, Nat.reduceAdd]
/-- the rows and slots that tablet(k) may change -/
def tabC : List Nat := [6, 8, 9, 10, 11, 12, 13, 14, 15, 16, 17, 18, 19, 20, 21, 22, 23, 24, 25, 26, 28, 29, 30, 31, 32, 33, 34, 98, 99, 100, 101, 103, 104, 106, 109, 110, 111, 112, 113, 115]
def tabD : List Nat := [0, 6, 7, 8, 9, 10, 12, 13, 14, 15, 31, 35, 36]
theorem tabC_n {r : Nat} (h : r ∉ tabC) : (r ≠ 6 ∧ (r < 8 ∨ 26 < r) ∧ (r < 28 ∨ 34 < r)) ∧ (r ≠ 98 ∧ r ≠ 99 ∧ r ≠ 100 ∧ r ≠ 101 ∧ r ≠ 103 ∧ r ≠ 104 ∧ r ≠ 106) ∧ r ≠ 109 ∧ r ≠ 110 ∧ r ≠ 111 ∧ r ≠ 112 ∧ r ≠ 113 ∧ r ≠ 115 := by
  simp only [tabC, List.mem_cons, List.not_mem_nil, or_false, not_or] at h
  omega
theorem tabD_n {i : Nat} (h : i ∉ tabD) : (i ≠ 0 ∧ i ≠ 6 ∧ i ≠ 7 ∧ i ≠ 8 ∧ i ≠ 9 ∧ i ≠ 10) ∧ (i ≠ 12 ∧ i ≠ 13 ∧ i ≠ 14 ∧ i ≠ 15) ∧ i ≠ 31 ∧ i ≠ 35 ∧ i ≠ 36 := by
  simp only [tabD, List.mem_cons, List.not_mem_nil, or_false, not_or] at h
  omega
theorem ag_tablet0 (d len : Nat) (μ : zMu) (ν : zNu) {a : Int} (ha : -2147483648 ≤ a ∧ a < 2147483648) (h : a < 0 ∨ 11 < a) (ht : RtxtM μ) (hb : RtabM μ ν) : ∃ (v : Int32) (μ1 μ2 : zMu), zF zT0 (d + 40) 143 [.ref 1, .int (zi a)] (zm len μ ν) = some (.int v, zm len μ1 ν) ∧ zF zT0 (d + 40) 220 [.ref 92, .int (zi a)] (zm len μ1 ν) = some (.int v, zm len μ2 ν) ∧ (RtxtM μ2 ∧ RtabM μ2 ν ∧ RfltM μ2) ∧ zfr tabC tabD μ μ2 := by
  obtain ⟨L, g, hL, t1, t2, hg, t3, t4⟩ := txt_n ht
  obtain ⟨_, _, _, t5, t6⟩ := ht
  obtain ⟨K, pl, nn, ty, va, S⟩ := strm_ex g hg L hL
  obtain ⟨c, x, b, p, hsp, ⟨c1, c5, c6, c7, c8⟩, hT⟩ := F_split (d + 31) len μ ν g L K pl nn ty va hL hg t3 t1 S
  have hsp : zF zT0 (d + 39) 120 [.ref 6] (zm len μ ν) = some (.null, zm len (M4 μ c x b p) ν) := hsp
  obtain ⟨X, hX⟩ : ∃ X, X = M4 μ c x b p := ⟨_, rfl⟩
  rw [← hX] at hsp
  have row : ∀ r, r ≠ 6 → r ≠ 8 → r ≠ 9 → r ≠ 10 → X r = μ r := fun r h6 h8 h9 h10 => by
    rw [hX]
    show zrw (zrw (zrw (zrw μ 6 c) 8 x) 9 b) 10 p r = μ r
    rw [zrw_n _ _ h10, zrw_n _ _ h9, zrw_n _ _ h8, zrw_n _ _ h6]
  have x6 : X 6 = c := by rw [hX]; rfl
  have hs : zF zT0 (d + 39) 111 [.ref 27, .int (zi a)] (zm len X ν) = some (.int (zi 0), zm len X ν) := F_has9n (d + 37) len ha h X ν
  obtain ⟨μ2, hμ2⟩ : ∃ μ2, μ2 = zup (zup (zup (zup X 92 0 (zi 0)) 92 14 (zi 0)) 92 15 (zi (-1))) 92 6 (zi 0) := ⟨_, rfl⟩
  have row2 : ∀ r, r ≠ 92 → μ2 r = X r := fun r hr => by rw [hμ2, zup_ne _ _ _ hr, zup_ne _ _ _ hr, zup_ne _ _ _ hr, zup_ne _ _ _ hr]
  have e926 : μ2 92 6 = zi 0 := by rw [hμ2]; rfl
  have e9214 : μ2 92 14 = zi 0 := by rw [hμ2]; rfl
  have e9215 : μ2 92 15 = zi (-1) := by rw [hμ2]; rfl
  have zm1 : (-1 : Int32) = zi (-1) := rfl
  have zz : (0 : Int32) = zi 0 := rfl
  refine ⟨zi (-1), X, μ2, ?_, ?_, ⟨⟨?_, ?_, ?_, ?_, ?_⟩, ?_, ?_, ?_⟩, fun r hr h92 => ?_, fun i hi => ?_⟩
  · rw [B_X11_tablet]
    show zbv (zF zT0 (d + 39) 120 [.ref 6] (zm len μ ν)) _ = _
    rw [hsp, zbv_some, B_X11_tablet_7, hs, zbi_some, B_X11_tablet_15, if_pos zz.symm]
    rfl
  · have e184 : zF zT0 (d + 39) 184 [.ref 92, .int (zi a), .int (zi 0), .int (zi 11)] (zm len (zup (zup (zup X 92 0 (zi 0)) 92 14 (zi 0)) 92 15 (zi (-1))) ν) = some (.int (zi 0), zm len (zup (zup (zup X 92 0 (zi 0)) 92 14 (zi 0)) 92 15 (zi (-1))) ν) := by
      rw [B_X12_isIn]
      by_cases z : a < 0
      · simp (disch := omega) only [z, zbi_some, zbl_some, zbv_some, zbi_none, zbl_none, zbv_none, zbi_ite, zbl_ite, zbv_ite, zbZ, zbO, zc_lt, zc_le, zc_ge, zc_gt, zc_eq, zk0, zk1, zk2, zk3, zk4, zk5, zk6, zk7, zk8, zk9, zk10, zk11, zk12, zk14, zk15, zk16, zk17, zk19, zk20, zk21, zk24, zk25, zk30, zk32, zk36, zk40, zk45, zk50, zk64, zk97, zk99, zk100, zk102, zk122, zk128, zk255, zk800, zk801, zk900, zk999, zk1000, zk1997, zk9999, zk10000, zk100000, zk99999, zk9999999, zk999999999, zk2147483647, zlc0, zlc1, zlc2, zlc3, zlc4, zlc23, zlc99, zlc100, zlc9999999, zlc999999999999, zlc1073741824, zi_neg, zi_add, zi_sub, zi_mul, zl_neg, zl_add, zl_sub, zl_mul, zi_toInt, zi_nat, zi_le, zi_lt, zi_eq, zl_le, zl_lt, zl_eq, zl_toInt, zl_of32, zi_of64, zi_div, zl_div, zmodI, ↓reduceIte, zTle, zFle, zTlt, zFlt, zTeq, zFeq, if_true, if_false, and_self, and_true, true_and, and_false, false_and, or_self, or_true, true_or, or_false, false_or, not_true_eq_false, not_false_eq_true, zcastA, zcastL, znatC, zab, Int.reduceAdd, Int.reduceSub, Int.reduceMul, Int.reduceNeg, Int.reduceToNat, Nat.reduceAdd]
      · simp (disch := omega) only [z, zbi_some, zbl_some, zbv_some, zbi_none, zbl_none, zbv_none, zbi_ite, zbl_ite, zbv_ite, zbZ, zbO, zc_lt, zc_le, zc_ge, zc_gt, zc_eq, zk0, zk1, zk2, zk3, zk4, zk5, zk6, zk7, zk8, zk9, zk10, zk11, zk12, zk14, zk15, zk16, zk17, zk19, zk20, zk21, zk24, zk25, zk30, zk32, zk36, zk40, zk45, zk50, zk64, zk97, zk99, zk100, zk102, zk122, zk128, zk255, zk800, zk801, zk900, zk999, zk1000, zk1997, zk9999, zk10000, zk100000, zk99999, zk9999999, zk999999999, zk2147483647, zlc0, zlc1, zlc2, zlc3, zlc4, zlc23, zlc99, zlc100, zlc9999999, zlc999999999999, zlc1073741824, zi_neg, zi_add, zi_sub, zi_mul, zl_neg, zl_add, zl_sub, zl_mul, zi_toInt, zi_nat, zi_le, zi_lt, zi_eq, zl_le, zl_lt, zl_eq, zl_toInt, zl_of32, zi_of64, zi_div, zl_div, zmodI, ↓reduceIte, zTle, zFle, zTlt, zFlt, zTeq, zFeq, if_true, if_false, and_self, and_true, true_and, and_false, false_and, or_self, or_true, true_or, or_false, false_or, not_true_eq_false, not_false_eq_true, zcastA, zcastL, znatC, zab, Int.reduceAdd, Int.reduceSub, Int.reduceMul, Int.reduceNeg, Int.reduceToNat, Nat.reduceAdd]
    rw [B_X12_tablet, hμ2]
    simp (disch := omega) only [zm1, e184, B_X12_tablet_23, B_X12_tablet_36, B_X12_tablet_67, zbi_some, zbl_some, zbv_some, zbi_none, zbl_none, zbv_none, zbi_ite, zbl_ite, zbv_ite, zbZ, zbO, zc_lt, zc_le, zc_ge, zc_gt, zc_eq, zk0, zk1, zk2, zk3, zk4, zk5, zk6, zk7, zk8, zk9, zk10, zk11, zk12, zk14, zk15, zk16, zk17, zk19, zk20, zk21, zk24, zk25, zk30, zk32, zk36, zk40, zk45, zk50, zk64, zk97, zk99, zk100, zk102, zk122, zk128, zk255, zk800, zk801, zk900, zk999, zk1000, zk1997, zk9999, zk10000, zk100000, zk99999, zk9999999, zk999999999, zk2147483647, zlc0, zlc1, zlc2, zlc3, zlc4, zlc23, zlc99, zlc100, zlc9999999, zlc999999999999, zlc1073741824, zi_neg, zi_add, zi_sub, zi_mul, zl_neg, zl_add, zl_sub, zl_mul, zi_toInt, zi_nat, zi_le, zi_lt, zi_eq, zl_le, zl_lt, zl_eq, zl_toInt, zl_of32, zi_of64, zi_div, zl_div, zmodI, ↓reduceIte, zTle, zFle, zTlt, zFlt, zTeq, zFeq, if_true, if_false, and_self, and_true, true_and, and_false, false_and, or_self, or_true, true_or, or_false, false_or, not_true_eq_false, not_false_eq_true, zcastA, zcastL, znatC, zab, Int.reduceAdd, Int.reduceSub, Int.reduceMul, Int.reduceNeg, Int.reduceToNat, Nat.reduceAdd]
  · rw [row2 6 (by decide), x6, c1, e926]
  · rw [row2 6 (by decide), x6, c1]
    decide
  · rw [row2 6 (by decide), x6, c1]
    decide
  · rw [row2 7 (by decide), row2 96 (by decide), row 7 (by decide) (by decide) (by decide) (by decide), row 96 (by decide) (by decide) (by decide) (by decide)]
    exact t5
  · rw [row2 7 (by decide), row 7 (by decide) (by decide) (by decide) (by decide)]
    exact t6
  · have rr : ∀ r, r ≠ 92 → r ≠ 6 → r ≠ 8 → r ≠ 9 → r ≠ 10 → μ2 r = μ r := fun r h92 h6 h8 h9 h10 => by rw [row2 r h92, row r h6 h8 h9 h10]
    exact Rtab_e hb (rr 28 (by decide) (by decide) (by decide) (by decide) (by decide)) (rr 99 (by decide) (by decide) (by decide) (by decide) (by decide)) (rr 29 (by decide) (by decide) (by decide) (by decide) (by decide)) (rr 98 (by decide) (by decide) (by decide) (by decide) (by decide)) (rr 30 (by decide) (by decide) (by decide) (by decide) (by decide)) (rr 31 (by decide) (by decide) (by decide) (by decide) (by decide)) (rr 34 (by decide) (by decide) (by decide) (by decide) (by decide)) (rr 109 (by decide) (by decide) (by decide) (by decide) (by decide)) (rr 32 (by decide) (by decide) (by decide) (by decide) (by decide)) (rr 33 (by decide) (by decide) (by decide) (by decide) (by decide)) (fun i _ => by rw [rr 100 (by decide) (by decide) (by decide) (by decide) (by decide), rr 101 (by decide) (by decide) (by decide) (by decide) (by decide)]; exact ⟨rfl, rfl⟩) rfl rfl
  · rw [row2 6 (by decide), x6, c7, e9214]
  · rw [row2 6 (by decide), x6, c8, e9215]
  · have q := (tabC_n hr).1
    rw [row2 r h92, row r q.1 (by omega) (by omega) (by omega)]
  · obtain ⟨⟨i0, i6, i7, i8, i9, i10⟩, ⟨i12, i13, i14, i15⟩, _⟩ := tabD_n hi
    rw [hμ2, zup_self, upd_ne _ _ i6, zup_self, upd_ne _ _ i15, zup_self, upd_ne _ _ i14, zup_self, upd_ne _ _ i0, row 92 (by decide) (by decide) (by decide) (by decide)]
theorem ag_tablet1 (d len : Nat) (μ : zMu) (ν : zNu) {k : Nat} (hk : k < 12) (ht : RtxtM μ) (hn : RnumM μ) (hw : RwrdM μ) (hb : RtabM μ ν) (ho : RnowM μ) : ∃ (v : Int32) (μ1 μ2 : zMu) (ν2 : zNu), zF zT0 (d + 40) 143 [.ref 1, .int (zi (k : Int))] (zm len μ ν) = some (.int v, zm len μ1 ν) ∧ zF zT0 (d + 40) 220 [.ref 92, .int (zi (k : Int))] (zm len μ1 ν) = some (.int v, zm len μ2 ν2) ∧ (RtxtM μ2 ∧ RtabM μ2 ν2 ∧ RfltM μ2) ∧ zfr tabC tabD μ μ2 ∧ ∀ x, x ≠ 102 → x ≠ 105 → x ≠ 107 → x ≠ 108 → x ≠ 114 → x ≠ 116 → ν2 x = ν x := by
  obtain ⟨L, g, hL, t1, t2, hg, t3, t4⟩ := txt_n ht
  obtain ⟨_, _, _, t5, t6⟩ := ht
  obtain ⟨sy, sn, st, hNP, hNX, hNY⟩ := num_n hn
  obtain ⟨o1, o2, o3⟩ := ho
  obtain ⟨K, pl, nn, ty, va, S⟩ := strm_ex g hg L hL
  obtain ⟨X, CL, hCP, x61, xf⟩ := tab_c0 d len μ ν S hL hg t3 t1 hNX hk
  have zz : (0 : Int32) = zi 0 := rfl
  have zm1 : (-1 : Int32) = zi (-1) := rfl
  rcases read_l S hL hg hNP 24 0 0 ln00 (by omega) (Nat.zero_le K) (LV_0 ln00) with ⟨ft, kf, hkf, hft, hC, hN⟩ | ⟨ln, n, hn24, hV, hC, hN⟩
  · obtain ⟨M1, E1, d1, d2, d3⟩ := hC (d + 32) len X ν hCP
    have E1 : zE zc_X1_read (zF zT0 (d + 38)) 28 [.ref 11, .int (zi 0)] [] (zm len X ν) = some (.int (zi 0), zm len M1 ν) := E1
    have row1 : ∀ r, r ≠ 6 → (r < 8 ∨ 26 < r) → M1 r = μ r := fun r h6 hr => by rw [d3.1 r h6 (by omega), xf r h6 hr]
    have hY : CcY g M1 := ⟨fun i => by rw [row1 96 (by decide) (by decide)]; exact t4 i, fun i hi => by rw [row1 97 (by decide) (by decide)]; exact hw i hi⟩
    have hN1 : NY sy sn st M1 := ⟨fun x hx => by rw [row1 95 (by decide) (by decide)]; exact hNY.1 x hx, fun x hx => by rw [row1 93 (by decide) (by decide)]; exact hNY.2.1 x hx, fun x i hx hi => by rw [row1 94 (by decide) (by decide)]; exact hNY.2.2 x i hx hi⟩
    obtain ⟨Y0, r, F1, hNP0, r14, r15, rr, yrow⟩ := tab_m0 d len M1 ν S hL hg hY hN1 (by rw [row1 92 (by decide) (by decide)]; exact t2) hk
    obtain ⟨r', Y', ν', G1, g12, g13, gf6, gfN⟩ := hN (d + 32) len Y0 ν r hNP0
    have G1 : zE zc_X12_readTablet (zF zT0 (d + 38)) 39 [.ref 92, .int (zi 0)] [] (zm len (zrw Y0 92 r) ν) = some (.int (zi (-1)), zm len (zrw Y' 92 r') ν') := G1
    obtain ⟨μ2, hμ2⟩ : ∃ μ2, μ2 = zrw Y' 92 (upd (upd (upd r' 6 (zi 0)) 14 (zi ft)) 15 (zi (pl kf : Int))) := ⟨_, rfl⟩
    have row2 : ∀ r, r ≠ 92 → μ2 r = Y' r := fun r hr => by rw [hμ2, zrw_n _ _ hr]
    have rowA : ∀ r, r ≠ 92 → r ≠ 6 → (r < 8 ∨ 26 < r) → r ≠ 110 → r ≠ 111 → r ≠ 100 → r ≠ 101 → r ≠ 103 → r ≠ 104 → r ≠ 106 → μ2 r = μ r := fun r h92 h6 hr h110 h111 h100 h101 h103 h104 h106 => by
      rw [row2 r h92, gfN.1 r h100 h101 h103 h104 h106 h110 h111, yrow r h92 h110 h111, row1 r h6 hr]
    have s6 : μ2 6 = M1 6 := by
      rw [row2 6 (by decide), gfN.1 6 (by decide) (by decide) (by decide) (by decide) (by decide) (by decide) (by decide), yrow 6 (by decide) (by decide) (by decide)]
    have e61 : M1 6 1 = zi 0 := by rw [d3.2 1 (by decide) (by decide) (by decide)]; exact x61
    refine ⟨zi (-1), M1, μ2, ν', ?_, ?_, ⟨⟨?_, ?_, ?_, ?_, ?_⟩, ?_, ?_, ?_⟩, ⟨fun r hr h92 => ?_, fun i hi => ?_⟩, fun x a b _ _ _ _ => gfN.2.2 x a b⟩
    · rw [CL, E1, zbi_some, B_X11_tablet_25, if_pos zz.symm]
      rfl
    · rw [F1, G1, zbi_some, B_X12_tablet_32, B_X12_tablet_36, hμ2]
      simp (disch := omega) only [zm1, zrw_s, g12, g13, upd_ne, zup_zrw, B_X12_tablet_67, zbi_some, zbl_some, zbv_some, zbi_none, zbl_none, zbv_none, zbi_ite, zbl_ite, zbv_ite, zbZ, zbO, zc_lt, zc_le, zc_ge, zc_gt, zc_eq, zk0, zk1, zk2, zk3, zk4, zk5, zk6, zk7, zk8, zk9, zk10, zk11, zk12, zk14, zk15, zk16, zk17, zk19, zk20, zk21, zk24, zk25, zk30, zk32, zk36, zk40, zk45, zk50, zk64, zk97, zk99, zk100, zk102, zk122, zk128, zk255, zk800, zk801, zk900, zk999, zk1000, zk1997, zk9999, zk10000, zk100000, zk99999, zk9999999, zk999999999, zk2147483647, zlc0, zlc1, zlc2, zlc3, zlc4, zlc23, zlc99, zlc100, zlc9999999, zlc999999999999, zlc1073741824, zi_neg, zi_add, zi_sub, zi_mul, zl_neg, zl_add, zl_sub, zl_mul, zi_toInt, zi_nat, zi_le, zi_lt, zi_eq, zl_le, zl_lt, zl_eq, zl_toInt, zl_of32, zi_of64, zi_div, zl_div, zmodI, ↓reduceIte, zTle, zFle, zTlt, zFlt, zTeq, zFeq, if_true, if_false, and_self, and_true, true_and, and_false, false_and, or_self, or_true, true_or, or_false, false_or, not_true_eq_false, not_false_eq_true, zcastA, zcastL, znatC, zab, Int.reduceAdd, Int.reduceSub, Int.reduceMul, Int.reduceNeg, Int.reduceToNat, Nat.reduceAdd]
    · rw [s6, e61, hμ2]
      rfl
    · rw [s6, e61]
      decide
    · rw [s6, e61]
      decide
    · rw [rowA 7 (by decide) (by decide) (by decide) (by decide) (by decide) (by decide) (by decide) (by decide) (by decide) (by decide), rowA 96 (by decide) (by decide) (by decide) (by decide) (by decide) (by decide) (by decide) (by decide) (by decide) (by decide)]
      exact t5
    · rw [rowA 7 (by decide) (by decide) (by decide) (by decide) (by decide) (by decide) (by decide) (by decide) (by decide) (by decide)]
      exact t6
    · have rB : ∀ r, (26 < r ∧ r < 92) ∨ r = 98 ∨ r = 99 ∨ r = 109 → μ2 r = μ r := fun r hr => rowA r (by omega) (by omega) (by omega) (by omega) (by omega) (by omega) (by omega) (by omega) (by omega) (by omega)
      exact Rtab_e hb (rB 28 (by omega)) (rB 99 (by omega)) (rB 29 (by omega)) (rB 98 (by omega)) (rB 30 (by omega)) (rB 31 (by omega)) (rB 34 (by omega)) (rB 109 (by omega)) (rB 32 (by omega)) (rB 33 (by omega)) (fun i hi => by
        obtain ⟨a, b⟩ := gfN.2.1 i hi
        rw [row2 100 (by decide), row2 101 (by decide), a, b, yrow 100 (by decide) (by decide) (by decide), yrow 101 (by decide) (by decide) (by decide), row1 100 (by decide) (by decide), row1 101 (by decide) (by decide)]
        exact ⟨rfl, rfl⟩) (gfN.2.2 107 (by decide) (by decide)) (gfN.2.2 108 (by decide) (by decide))
    · rw [s6, d1, hμ2]
      rfl
    · rw [s6, d2, hμ2]
      rfl
    · obtain ⟨⟨q6, q8, _⟩, ⟨_, _, q100, q101, q103, q104, q106⟩, _, q110, q111, _⟩ := tabC_n hr
      exact rowA r h92 q6 q8 q110 q111 q100 q101 q103 q104 q106
    · obtain ⟨⟨i0, i6, i7, i8, i9, i10⟩, ⟨i12, i13, i14, i15⟩, _⟩ := tabD_n hi
      rw [hμ2, zrw_s, upd_ne _ _ i15, upd_ne _ _ i14, upd_ne _ _ i6, gf6 i i7 i8 i9 i10 i12 i13, rr i i0 i7 i8 i9 i10 i14 i15, row1 92 (by decide) (by decide)]
  · obtain ⟨M1, x, E1, hP1, d3⟩ := hC (d + 32) len X ν hCP
    have E1 : zE zc_X1_read (zF zT0 (d + 38)) 28 [.ref 11, .int (zi 0)] [] (zm len X ν) = zE zc_X1_read (zF zT0 (d + 38)) 59 [.ref 11, .int x] [] (zm len M1 ν) := E1
    obtain ⟨M2, E2, k3⟩ := tab_c1 d len μ ν hn24 hV hP1 hk x
    have row1 : ∀ r, r ≠ 6 → (r < 8 ∨ 26 < r) → M2 r = μ r := fun r h6 hr => by rw [k3 r (by omega), d3.1 r h6 (by omega), xf r h6 hr]
    have m66 : M2 6 = M1 6 := k3 6 (by omega)
    have e61 : M2 6 1 = zi 0 := by rw [m66, d3.2 1 (by decide) (by decide) (by decide)]; exact x61
    have e67 : M2 6 7 = zi 0 := by rw [m66]; exact hP1.1.2.2.2.1
    have e68 : M2 6 8 = zi (-1) := by rw [m66]; exact hP1.1.2.2.2.2
    obtain ⟨y, hy⟩ : ∃ y, y = M2 1 11 := ⟨_, rfl⟩
    have y1 : y = μ 1 11 := by rw [hy, row1 1 (by decide) (by decide)]
    obtain ⟨μ1, hμ1⟩ : ∃ μ1, μ1 = keepM M2 ln n k n y := ⟨_, rfl⟩
    have rowK : ∀ r, r ≠ 6 → (r < 8 ∨ 26 < r) → (r < 28 ∨ 34 < r) → μ1 r = μ r := fun r h6 hr hk => by rw [hμ1, keepM_r hk, row1 r h6 hr]
    have hY : CcY g μ1 := ⟨fun i => by rw [rowK 96 (by decide) (by decide) (by decide)]; exact t4 i, fun i hi => by rw [rowK 97 (by decide) (by decide) (by decide)]; exact hw i hi⟩
    have hN1 : NY sy sn st μ1 := ⟨fun x hx => by rw [rowK 95 (by decide) (by decide) (by decide)]; exact hNY.1 x hx, fun x hx => by rw [rowK 93 (by decide) (by decide) (by decide)]; exact hNY.2.1 x hx, fun x i hx hi => by rw [rowK 94 (by decide) (by decide) (by decide)]; exact hNY.2.2 x i hx hi⟩
    obtain ⟨Y0, r, F1, hNP0, r14, r15, rr, yrow⟩ := tab_m0 d len μ1 ν S hL hg hY hN1 (by rw [rowK 92 (by decide) (by decide) (by decide)]; exact t2) hk
    obtain ⟨r', Y', ν', G1, ⟨_, _, _, _, hMB⟩, gf4, gfN⟩ := hN (d + 32) len Y0 ν r hNP0
    have G1 : zE zc_X12_readTablet (zF zT0 (d + 38)) 39 [.ref 92, .int (zi 0)] [] (zm len (zrw Y0 92 r) ν) = some (.int (zi (n : Int)), zm len (zrw Y' 92 r') ν') := G1
    obtain ⟨Yc, hYc⟩ : ∃ Yc, Yc = zrw Y' 92 (upd r' 6 (zi 0)) := ⟨_, rfl⟩
    have rowc : ∀ r, r ≠ 92 → Yc r = Y' r := fun r hr => by rw [hYc, zrw_n _ _ hr]
    have s92 : ∀ i, i ≠ 0 → i ≠ 6 → i ≠ 7 → i ≠ 8 → i ≠ 9 → i ≠ 10 → i ≠ 14 → i ≠ 15 → Yc 92 i = μ 92 i := fun i i0 i6 i7 i8 i9 i10 i14 i15 => by
      rw [hYc, zrw_s, upd_ne _ _ i6, gf4 i i7 i8 i9 i10, rr i i0 i7 i8 i9 i10 i14 i15, rowK 92 (by decide) (by decide) (by decide)]
    have hM0 : ∀ i, i < n → MlinO 288 Yc ν' ln i := fun i hi => by
      have h := hMB.1 i hi
      unfold MlinO
      rw [rowc 100 (by decide), rowc 101 (by decide), rowc 103 (by decide), rowc 104 (by decide), rowc 106 (by decide)]
      exact h
    obtain ⟨Y3, ν3, w5, w6, w7, H1, hM3, h98, h99, hcp⟩ := cp_all (zF zT0 (d + 39)) len hn24 hk hV (zi 1) y n 0 (by omega) Yc ν' zU zU zU (by rw [s92 1 (by decide) (by decide) (by decide) (by decide) (by decide) (by decide) (by decide) (by decide), y1]; exact o1.symm) hM0 (fun i hi => by omega)
    have H1 : zE zc_X12_tablet (zF zT0 (d + 39)) 77 [.ref 92, .int (zi (k : Int)), .int (zi 1), .int (zi (n : Int)), .int (zi 0), zU, zU, zU] [] (zm len Yc ν') = _ := H1
    obtain ⟨Y4, ν4, I1, hS, hG⟩ := F_blk (d + 33) len hk hn24 hV h98 hM3
    have I1 : zF zT0 (d + 39) 219 [.ref 92, .int (zi (k : Int))] (zm len Y3 ν3) = some (.null, zm len Y4 ν4) := I1
    have rowA : ∀ r, r ≠ 92 → r ≠ 6 → (r < 8 ∨ 26 < r) → (r < 28 ∨ 34 < r) → r ≠ 98 → r ≠ 99 → r ≠ 100 → r ≠ 101 → r ≠ 103 → r ≠ 104 → r ≠ 106 → r ≠ 109 → r ≠ 110 → r ≠ 111 → r ≠ 112 → r ≠ 113 → r ≠ 115 → Y4 r = μ r := fun r h92 h6 hr hr2 h98 h99 h100 h101 h103 h104 h106 h109 h110 h111 h112 h113 h115 => by
      rw [hG.1 r h92 h109 h112 h113 h115, hcp.1 r h98 h99 h100 h101 h103 h104 h106, rowc r h92, gfN.1 r h100 h101 h103 h104 h106 h110 h111, yrow r h92 h110 h111, rowK r h6 hr hr2]
    have row4 : ∀ r, r < 92 → Y4 r = μ1 r := fun r hr => by
      rw [hG.1 r (by omega) (by omega) (by omega) (by omega) (by omega), hcp.1 r (by omega) (by omega) (by omega) (by omega) (by omega) (by omega) (by omega), rowc r (by omega), gfN.1 r (by omega) (by omega) (by omega) (by omega) (by omega) (by omega) (by omega), yrow r (by omega) (by omega) (by omega)]
    have s6 : Y4 6 = M2 6 := by rw [row4 6 (by decide), hμ1, keepM_r (by decide)]
    have t92 : ∀ i, i ≠ 0 → i ≠ 7 → i ≠ 8 → i ≠ 9 → i ≠ 10 → i ≠ 31 → i ≠ 35 → i ≠ 36 → Y4 92 i = (upd r' 6 (zi 0)) i := fun i i0 i7 i8 i9 i10 i31 i35 i36 => by
      rw [hG.2.1 i i31 i35 i36, hcp.1 92 (by decide) (by decide) (by decide) (by decide) (by decide) (by decide) (by decide), hYc, zrw_s]
    refine ⟨zi (n : Int), μ1, Y4, ν4, ?_, ?_, ⟨⟨?_, ?_, ?_, ?_, ?_⟩, ?_, ?_, ?_⟩, ⟨fun r hr h92 => ?_, fun i hi => ?_⟩, fun x a b c e f h => by rw [hG.2.2.2.1 x c e f h, hcp.2.2.2 x a b, gfN.2.2 x a b]⟩
    · rw [CL, E1, E2, hμ1, hy]
    · have nm : ¬ (n : Int) = -1 := by omega
      rw [F1, G1, zbi_some, B_X12_tablet_32, B_X12_tablet_36]
      simp (disch := omega) only [zm1, nm, zup_zrw, B_X12_tablet_67, zbi_some, zbl_some, zbv_some, zbi_none, zbl_none, zbv_none, zbi_ite, zbl_ite, zbv_ite, zbZ, zbO, zc_lt, zc_le, zc_ge, zc_gt, zc_eq, zk0, zk1, zk2, zk3, zk4, zk5, zk6, zk7, zk8, zk9, zk10, zk11, zk12, zk14, zk15, zk16, zk17, zk19, zk20, zk21, zk24, zk25, zk30, zk32, zk36, zk40, zk45, zk50, zk64, zk97, zk99, zk100, zk102, zk122, zk128, zk255, zk800, zk801, zk900, zk999, zk1000, zk1997, zk9999, zk10000, zk100000, zk99999, zk9999999, zk999999999, zk2147483647, zlc0, zlc1, zlc2, zlc3, zlc4, zlc23, zlc99, zlc100, zlc9999999, zlc999999999999, zlc1073741824, zi_neg, zi_add, zi_sub, zi_mul, zl_neg, zl_add, zl_sub, zl_mul, zi_toInt, zi_nat, zi_le, zi_lt, zi_eq, zl_le, zl_lt, zl_eq, zl_toInt, zl_of32, zi_of64, zi_div, zl_div, zmodI, ↓reduceIte, zTle, zFle, zTlt, zFlt, zTeq, zFeq, if_true, if_false, and_self, and_true, true_and, and_false, false_and, or_self, or_true, true_or, or_false, false_or, not_true_eq_false, not_false_eq_true, zcastA, zcastL, znatC, zab, Int.reduceAdd, Int.reduceSub, Int.reduceMul, Int.reduceNeg, Int.reduceToNat, Nat.reduceAdd]
      rw [← hYc, H1, B_X12_tablet_256, I1, zbv_some, B_X12_tablet_261]
    · rw [s6, e61, t92 6 (by decide) (by decide) (by decide) (by decide) (by decide) (by decide) (by decide) (by decide), upd_eq]
    · rw [s6, e61]
      decide
    · rw [s6, e61]
      decide
    · rw [row4 7 (by decide), rowA 96 (by decide) (by decide) (by decide) (by decide) (by decide) (by decide) (by decide) (by decide) (by decide) (by decide) (by decide) (by decide) (by decide) (by decide) (by decide) (by decide) (by decide), rowK 7 (by decide) (by decide) (by decide)]
      exact t5
    · rw [row4 7 (by decide), rowK 7 (by decide) (by decide) (by decide)]
      exact t6
    · have q : ∀ r, 28 ≤ r → r ≤ 34 → M2 r = μ r := fun r a b => row1 r (by omega) (by omega)
      refine Rtab_new hb hk hn24 hV (y := y) (by rw [y1]; omega) ?_ ?_ ?_ ?_ ?_ ?_ ?_ ?_ ?_ (fun i hi => ?_) (fun i hi => ?_) (fun i hi ho => ?_) hS
      · rw [row4 28 (by decide), hμ1, ← q 28 (by omega) (by omega)]
        rfl
      · rw [row4 29 (by decide), hμ1, ← q 29 (by omega) (by omega)]
        rfl
      · rw [row4 30 (by decide), hμ1, ← q 30 (by omega) (by omega)]
        rfl
      · rw [row4 31 (by decide), hμ1, ← q 31 (by omega) (by omega)]
        rfl
      · rw [row4 32 (by decide), hμ1, ← q 32 (by omega) (by omega)]
        rfl
      · rw [row4 33 (by decide), hμ1, ← q 33 (by omega) (by omega)]
        rfl
      · rw [row4 34 (by decide), hμ1, ← q 34 (by omega) (by omega)]
        rfl
      · rw [hG.1 98 (by decide) (by decide) (by decide) (by decide) (by decide)]; exact h98
      · rw [hG.1 99 (by decide) (by decide) (by decide) (by decide) (by decide)]; exact h99
      · rw [hG.1 98 (by decide) (by decide) (by decide) (by decide) (by decide), hG.1 99 (by decide) (by decide) (by decide) (by decide) (by decide), (hcp.2.2.1 i hi).1, (hcp.2.2.1 i hi).2, rowc 98 (by decide), rowc 99 (by decide), gfN.1 98 (by decide) (by decide) (by decide) (by decide) (by decide) (by decide) (by decide), gfN.1 99 (by decide) (by decide) (by decide) (by decide) (by decide) (by decide) (by decide), yrow 98 (by decide) (by decide) (by decide), yrow 99 (by decide) (by decide) (by decide), rowK 98 (by decide) (by decide) (by decide), rowK 99 (by decide) (by decide) (by decide)]
        exact ⟨rfl, rfl⟩
      · rw [hG.1 100 (by decide) (by decide) (by decide) (by decide) (by decide), hG.1 101 (by decide) (by decide) (by decide) (by decide) (by decide)]
        exact ⟨(hM3 i hi).1, (hM3 i hi).2.1⟩
      · obtain ⟨a, b⟩ := gfN.2.1 i hi
        obtain ⟨c, e⟩ := hcp.2.1 i ho
        obtain ⟨v7, v8⟩ := hG.2.2.2.2 i ho
        rw [hG.1 100 (by decide) (by decide) (by decide) (by decide) (by decide), hG.1 101 (by decide) (by decide) (by decide) (by decide) (by decide), c, e, rowc 100 (by decide), rowc 101 (by decide), a, b, yrow 100 (by decide) (by decide) (by decide), yrow 101 (by decide) (by decide) (by decide), rowK 100 (by decide) (by decide) (by decide), rowK 101 (by decide) (by decide) (by decide), hG.2.2.1 i ho, hcp.1 109 (by decide) (by decide) (by decide) (by decide) (by decide) (by decide) (by decide), rowc 109 (by decide), gfN.1 109 (by decide) (by decide) (by decide) (by decide) (by decide) (by decide) (by decide), yrow 109 (by decide) (by decide) (by decide), rowK 109 (by decide) (by decide) (by decide), v7, v8, hcp.2.2.2 107 (by decide) (by decide), hcp.2.2.2 108 (by decide) (by decide), gfN.2.2 107 (by decide) (by decide), gfN.2.2 108 (by decide) (by decide)]
        exact ⟨⟨rfl, rfl⟩, rfl, rfl, rfl⟩
    · rw [s6, e67, t92 14 (by decide) (by decide) (by decide) (by decide) (by decide) (by decide) (by decide) (by decide), upd_ne _ _ (by decide), gf4 14 (by decide) (by decide) (by decide) (by decide), r14]
    · rw [s6, e68, t92 15 (by decide) (by decide) (by decide) (by decide) (by decide) (by decide) (by decide) (by decide), upd_ne _ _ (by decide), gf4 15 (by decide) (by decide) (by decide) (by decide), r15]
    · obtain ⟨⟨q6, q8, q28⟩, ⟨q98, q99, q100, q101, q103, q104, q106⟩, q109, q110, q111, q112, q113, q115⟩ := tabC_n hr
      exact rowA r h92 q6 q8 q28 q98 q99 q100 q101 q103 q104 q106 q109 q110 q111 q112 q113 q115
    · obtain ⟨⟨i0, i6, i7, i8, i9, i10⟩, ⟨i12, i13, i14, i15⟩, i31, i35, i36⟩ := tabD_n hi
      rw [t92 i i0 i7 i8 i9 i10 i31 i35 i36, ← s92 i i0 i6 i7 i8 i9 i10 i14 i15, hYc, zrw_s]
theorem ag_tablet (d len : Nat) (μ : zMu) (ν : zNu) (a : Int32) (ht : RtxtM μ) (hn : RnumM μ) (hw : RwrdM μ) (hb : RtabM μ ν) (ho : RnowM μ) : ∃ (v : Int32) (μ1 μ2 : zMu) (ν2 : zNu), zF zT0 (d + 40) 143 [.ref 1, .int a] (zm len μ ν) = some (.int v, zm len μ1 ν) ∧ zF zT0 (d + 40) 220 [.ref 92, .int a] (zm len μ1 ν) = some (.int v, zm len μ2 ν2) ∧ (RtxtM μ2 ∧ RtabM μ2 ν2 ∧ RfltM μ2) ∧ zfr tabC tabD μ μ2 ∧ ∀ x, x ≠ 102 → x ≠ 105 → x ≠ 107 → x ≠ 108 → x ≠ 114 → x ≠ 116 → ν2 x = ν x := by
  obtain ⟨a, a1, a2, rfl⟩ := zi_ex a
  by_cases c0 : 0 ≤ a ∧ a ≤ 11
  · obtain ⟨k, hk⟩ : ∃ k : Nat, (k : Int) = a := ⟨a.toNat, by omega⟩
    subst hk
    exact ag_tablet1 d len μ ν (show k < 12 by omega) ht hn hw hb ho
  · obtain ⟨v, μ1, μ2, A, B, C, D⟩ := ag_tablet0 d len μ ν ⟨a1, a2⟩ (show a < 0 ∨ 11 < a by omega) ht hb
    exact ⟨v, μ1, μ2, ν, A, B, C, D, fun _ _ _ _ _ _ _ => rfl⟩

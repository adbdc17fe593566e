/-! TABLET solved: the class's BLOCK, and all of them -/
section SC4
variable {ln : Nat → Ln} {n b : Nat}
theorem F_fy (d len : Nat) (ν : zNu) (h : LV ln n) (hn : n ≤ 24) (hb : b < n) (hbb : bkF ln b = b) {x : Nat} (hx : x ≤ 99) (S : Stt) : ∀ k y : Nat, y + k = (mW (mkF ln b n) 1).toNat + 1 → ∀ (M : zMu) (v5 v8 v9 v10 : Value), DBd M ln n → RW ln n b M (fY ln n b (x : Int) y S).2.1 (fY ln n b (x : Int) y S).2.2 → ∃ (M' : zMu) (w5 w8 w9 w10 : Value), zE zc_X1_solve (zF zT0 (d + 3)) 33 [.ref 11, .int (zi (b : Int)), .int (zi (2 * (b : Int))), .int (zi (2 * (b : Int) + 1)), .long (zl (fY ln n b (x : Int) y S).1), v5, .int (zi (x : Int)), .int (zi (y : Int)), v8, v9, v10] [] (zm len M ν) = zE zc_X1_solve (zF zT0 (d + 3)) 33 [.ref 11, .int (zi (b : Int)), .int (zi (2 * (b : Int))), .int (zi (2 * (b : Int) + 1)), .long (zl (fY ln n b (x : Int) ((mW (mkF ln b n) 1).toNat + 1) S).1), w5, .int (zi (x : Int)), .int (zi (((mW (mkF ln b n) 1).toNat + 1 : Nat) : Int)), w8, w9, w10] [] (zm len M' ν) ∧ RW ln n b M' (fY ln n b (x : Int) ((mW (mkF ln b n) 1).toNat + 1) S).2.1 (fY ln n b (x : Int) ((mW (mkF ln b n) 1).toNat + 1) S).2.2 ∧ frB ln b M M' := by
  have w1 := mW_b h b 1
  intro k
  induction k with
  | zero =>
    intro y hy M v5 v8 v9 v10 hD hR
    have : y = (mW (mkF ln b n) 1).toNat + 1 := by omega
    subst this
    exact ⟨M, v5, v8, v9, v10, rfl, hR, frB_rf ln b M⟩
  | succ k ih =>
    intro y hy M v5 v8 v9 v10 hD hR
    obtain ⟨M1, u5, u8, u9, u10, A, A1, A2⟩ := F_stp d len ν h hn hD hb hbb hR hx (show (y : Int) ≤ mW (mkF ln b n) 1 by omega) v5 v8 v9 v10
    obtain ⟨M2, w5, w8, w9, w10, B, B1, B2⟩ := ih (y + 1) (by omega) M1 u5 u8 u9 u10 (dbd_c hD A2.1) A1
    exact ⟨M2, w5, w8, w9, w10, A.trans B, B1, frB_tr A2 B2⟩
theorem F_fx (d len : Nat) (ν : zNu) (h : LV ln n) (hn : n ≤ 24) (hb : b < n) (hbb : bkF ln b = b) (S : Stt) : ∀ k x : Nat, x + k = (mW (mkF ln b n) 0).toNat + 1 → ∀ (M : zMu) (v5 v7 v8 v9 v10 : Value), DBd M ln n → RW ln n b M (fX ln n b x S).2.1 (fX ln n b x S).2.2 → ∃ (M' : zMu) (w5 w7 w8 w9 w10 : Value), zE zc_X1_solve (zF zT0 (d + 3)) 19 [.ref 11, .int (zi (b : Int)), .int (zi (2 * (b : Int))), .int (zi (2 * (b : Int) + 1)), .long (zl (fX ln n b x S).1), v5, .int (zi (x : Int)), v7, v8, v9, v10] [] (zm len M ν) = zE zc_X1_solve (zF zT0 (d + 3)) 19 [.ref 11, .int (zi (b : Int)), .int (zi (2 * (b : Int))), .int (zi (2 * (b : Int) + 1)), .long (zl (fX ln n b ((mW (mkF ln b n) 0).toNat + 1) S).1), w5, .int (zi (((mW (mkF ln b n) 0).toNat + 1 : Nat) : Int)), w7, w8, w9, w10] [] (zm len M' ν) ∧ RW ln n b M' (fX ln n b ((mW (mkF ln b n) 0).toNat + 1) S).2.1 (fX ln n b ((mW (mkF ln b n) 0).toNat + 1) S).2.2 ∧ frB ln b M M' := by
  have w0 := mW_b h b 0
  have w1 := mW_b h b 1
  intro k
  induction k with
  | zero =>
    intro x hx M v5 v7 v8 v9 v10 hD hR
    have : x = (mW (mkF ln b n) 0).toNat + 1 := by omega
    subst this
    exact ⟨M, v5, v7, v8, v9, v10, rfl, hR, frB_rf ln b M⟩
  | succ k ih =>
    intro x hx M v5 v7 v8 v9 v10 hD hR
    have m03 := ((hD.2.2.2 b hb hbb).2.2.2.2.2 0 (by decide)).2.2
    rw [Nat.add_zero] at m03
    have i0 : (2 * (b : Int)).toNat = 2 * b := by omega
    have i1 : (2 * (b : Int) + 1).toNat = 2 * b + 1 := by omega
    have P : zE zc_X1_solve (zF zT0 (d + 3)) 19 [.ref 11, .int (zi (b : Int)), .int (zi (2 * (b : Int))), .int (zi (2 * (b : Int) + 1)), .long (zl (fX ln n b x S).1), v5, .int (zi (x : Int)), v7, v8, v9, v10] [] (zm len M ν) = zE zc_X1_solve (zF zT0 (d + 3)) 33 [.ref 11, .int (zi (b : Int)), .int (zi (2 * (b : Int))), .int (zi (2 * (b : Int) + 1)), .long (zl (fX ln n b x S).1), v5, .int (zi (x : Int)), .int (zi ((0 : Nat) : Int)), v8, v9, v10] [] (zm len M ν) := by
      rw [B_X1_solve_19]
      simp (disch := omega) only [i0, m03, zbi_some, zbl_some, zbv_some, zbi_none, zbl_none, zbv_none, zbi_ite, zbl_ite, zbv_ite, zbZ, zbO, zc_lt, zc_le, zc_ge, zc_gt, zc_eq, zk0, zk1, zk2, zk3, zk4, zk5, zk6, zk7, zk8, zk9, zk10, zk11, zk12, zk14, zk15, zk16, zk17, zk19, zk20, zk21, zk24, zk25, zk30, zk32, zk36, zk40, zk45, zk50, zk64, zk97, zk99, zk100, zk102, zk122, zk128, zk255, zk800, zk801, zk900, zk999, zk1000, zk1997, zk9999, zk10000, zk100000, zk99999, zk9999999, zk999999999, zk2147483647, zlc0, zlc1, zlc2, zlc3, zlc4, zlc23, zlc99, zlc100, zlc9999999, zlc999999999999, zlc1073741824, zi_neg, zi_add, zi_sub, zi_mul, zl_neg, zl_add, zl_sub, zl_mul, zi_toInt, zi_nat, zi_le, zi_lt, zi_eq, zl_le, zl_lt, zl_eq, zl_toInt, zl_of32, zi_of64, zi_div, zl_div, zmodI, ↓reduceIte, zTle, zFle, zTlt, zFlt, zTeq, zFeq, if_true, if_false, and_self, and_true, true_and, and_false, false_and, or_self, or_true, true_or, or_false, false_or, not_true_eq_false, not_false_eq_true, zcastA, zcastL, znatC, zab, Int.reduceAdd, Int.reduceSub, Int.reduceMul, Int.reduceNeg, Int.reduceToNat, Nat.reduceAdd]
    obtain ⟨M1, u5, u8, u9, u10, A, A1, A2⟩ := F_fy d len ν h hn hb hbb (show x ≤ 99 by omega) (fX ln n b x S) ((mW (mkF ln b n) 1).toNat + 1) 0 (by omega) M v5 v8 v9 v10 hD hR
    have hD1 := dbd_c hD A2.1
    have m13 := ((hD1.2.2.2 b hb hbb).2.2.2.2.2 1 (by decide)).2.2
    have Q : ∀ c : Int64, zE zc_X1_solve (zF zT0 (d + 3)) 33 [.ref 11, .int (zi (b : Int)), .int (zi (2 * (b : Int))), .int (zi (2 * (b : Int) + 1)), .long c, u5, .int (zi (x : Int)), .int (zi (((mW (mkF ln b n) 1).toNat + 1 : Nat) : Int)), u8, u9, u10] [] (zm len M1 ν) = zE zc_X1_solve (zF zT0 (d + 3)) 19 [.ref 11, .int (zi (b : Int)), .int (zi (2 * (b : Int))), .int (zi (2 * (b : Int) + 1)), .long c, zclr u5, .int (zi ((x + 1 : Nat) : Int)), .int (zi (((mW (mkF ln b n) 1).toNat + 1 : Nat) : Int)), u8, u9, u10] [] (zm len M1 ν) := fun c => by
      rw [B_X1_solve_33]
      simp (disch := omega) only [i1, m13, zbi_some, zbl_some, zbv_some, zbi_none, zbl_none, zbv_none, zbi_ite, zbl_ite, zbv_ite, zbZ, zbO, zc_lt, zc_le, zc_ge, zc_gt, zc_eq, zk0, zk1, zk2, zk3, zk4, zk5, zk6, zk7, zk8, zk9, zk10, zk11, zk12, zk14, zk15, zk16, zk17, zk19, zk20, zk21, zk24, zk25, zk30, zk32, zk36, zk40, zk45, zk50, zk64, zk97, zk99, zk100, zk102, zk122, zk128, zk255, zk800, zk801, zk900, zk999, zk1000, zk1997, zk9999, zk10000, zk100000, zk99999, zk9999999, zk999999999, zk2147483647, zlc0, zlc1, zlc2, zlc3, zlc4, zlc23, zlc99, zlc100, zlc9999999, zlc999999999999, zlc1073741824, zi_neg, zi_add, zi_sub, zi_mul, zl_neg, zl_add, zl_sub, zl_mul, zi_toInt, zi_nat, zi_le, zi_lt, zi_eq, zl_le, zl_lt, zl_eq, zl_toInt, zl_of32, zi_of64, zi_div, zl_div, zmodI, ↓reduceIte, zTle, zFle, zTlt, zFlt, zTeq, zFeq, if_true, if_false, and_self, and_true, true_and, and_false, false_and, or_self, or_true, true_or, or_false, false_or, not_true_eq_false, not_false_eq_true, zcastA, zcastL, znatC, zab, Int.reduceAdd, Int.reduceSub, Int.reduceMul, Int.reduceNeg, Int.reduceToNat, Nat.reduceAdd]
    obtain ⟨M2, w5, w7, w8, w9, w10, B, B1, B2⟩ := ih (x + 1) (by omega) M1 (zclr u5) (.int (zi (((mW (mkF ln b n) 1).toNat + 1 : Nat) : Int))) u8 u9 u10 hD1 A1
    exact ⟨M2, w5, w7, w8, w9, w10, (P.trans A).trans ((Q _).trans B), B1, frB_tr A2 B2⟩
def m1F : Nat → Int := fun _ => -1
theorem F_close (d len : Nat) {M : zMu} (ν : zNu) (hn : n ≤ 24) (hD : DBd M ln n) (hb : b < n) {c : Int} (hc : 0 ≤ c ∧ c ≤ 999999999) (e21 : M 21 b = zi c) : zF zT0 (d + 1) 27 [.ref 11, .int (zi (b : Int))] (zm len M ν) = some (.null, zm len (if c = 0 then zrw (zrw M 15 (osp ln b (M 15) m1F n)) 16 (osp ln b (M 16) m1F n) else M) ν) := by
  have e11 := hD.1
  have zm1 : (-1 : Int32) = zi (-1) := rfl
  rw [B_X1_closeSpans]
  by_cases z : c = 0
  · rw [if_pos z]
    rw [z] at e21
    have Lp : ∀ k m : Nat, m + k = n → b ≤ m → zE zc_X1_closeSpans (zF zT0 d) 2 [.ref 11, .int (zi (b : Int)), .int (zi (m : Int))] [] (zm len (zrw (zrw M 15 (osp ln b (M 15) m1F m)) 16 (osp ln b (M 16) m1F m)) ν) = some (.null, zm len (zrw (zrw M 15 (osp ln b (M 15) m1F n)) 16 (osp ln b (M 16) m1F n)) ν) := by
      intro k
      induction k with
      | zero =>
        intro m hm hbm
        have : m = n := by omega
        subst this
        rw [B_X1_closeSpans_2]
        simp (disch := omega) only [zrw_n, e11, zbi_some, zbl_some, zbv_some, zbi_none, zbl_none, zbv_none, zbi_ite, zbl_ite, zbv_ite, zbZ, zbO, zc_lt, zc_le, zc_ge, zc_gt, zc_eq, zk0, zk1, zk2, zk3, zk4, zk5, zk6, zk7, zk8, zk9, zk10, zk11, zk12, zk14, zk15, zk16, zk17, zk19, zk20, zk21, zk24, zk25, zk30, zk32, zk36, zk40, zk45, zk50, zk64, zk97, zk99, zk100, zk102, zk122, zk128, zk255, zk800, zk801, zk900, zk999, zk1000, zk1997, zk9999, zk10000, zk100000, zk99999, zk9999999, zk999999999, zk2147483647, zlc0, zlc1, zlc2, zlc3, zlc4, zlc23, zlc99, zlc100, zlc9999999, zlc999999999999, zlc1073741824, zi_neg, zi_add, zi_sub, zi_mul, zl_neg, zl_add, zl_sub, zl_mul, zi_toInt, zi_nat, zi_le, zi_lt, zi_eq, zl_le, zl_lt, zl_eq, zl_toInt, zl_of32, zi_of64, zi_div, zl_div, zmodI, ↓reduceIte, zTle, zFle, zTlt, zFlt, zTeq, zFeq, if_true, if_false, and_self, and_true, true_and, and_false, false_and, or_self, or_true, true_or, or_false, false_or, not_true_eq_false, not_false_eq_true, zcastA, zcastL, znatC, zab, Int.reduceAdd, Int.reduceSub, Int.reduceMul, Int.reduceNeg, Int.reduceToNat, Nat.reduceAdd]
      | succ k ih =>
        intro m hm hbm
        have e17 := (hD.2.1 m (by omega)).2.2.2
        have bl := bkF_le ln m
        have ih' := ih (m + 1) (by omega) (by omega)
        rw [B_X1_closeSpans_2]
        by_cases c : bkF ln m = b
        · have c' : (bkF ln m : Int) = (b : Int) := by omega
          have S15 := osp_S (M 15) m1F c (x := -1) rfl
          have S16 := osp_S (M 16) m1F c (x := -1) rfl
          simp (disch := omega) only [zrw_n, e11, e17, e21, c', zm1, zup_zrw_n, zup_zrw, S15, S16, B_X1_closeSpans_43, zbi_some, zbl_some, zbv_some, zbi_none, zbl_none, zbv_none, zbi_ite, zbl_ite, zbv_ite, zbZ, zbO, zc_lt, zc_le, zc_ge, zc_gt, zc_eq, zk0, zk1, zk2, zk3, zk4, zk5, zk6, zk7, zk8, zk9, zk10, zk11, zk12, zk14, zk15, zk16, zk17, zk19, zk20, zk21, zk24, zk25, zk30, zk32, zk36, zk40, zk45, zk50, zk64, zk97, zk99, zk100, zk102, zk122, zk128, zk255, zk800, zk801, zk900, zk999, zk1000, zk1997, zk9999, zk10000, zk100000, zk99999, zk9999999, zk999999999, zk2147483647, zlc0, zlc1, zlc2, zlc3, zlc4, zlc23, zlc99, zlc100, zlc9999999, zlc999999999999, zlc1073741824, zi_neg, zi_add, zi_sub, zi_mul, zl_neg, zl_add, zl_sub, zl_mul, zi_toInt, zi_nat, zi_le, zi_lt, zi_eq, zl_le, zl_lt, zl_eq, zl_toInt, zl_of32, zi_of64, zi_div, zl_div, zmodI, ↓reduceIte, zTle, zFle, zTlt, zFlt, zTeq, zFeq, if_true, if_false, and_self, and_true, true_and, and_false, false_and, or_self, or_true, true_or, or_false, false_or, not_true_eq_false, not_false_eq_true, zcastA, zcastL, znatC, zab, Int.reduceAdd, Int.reduceSub, Int.reduceMul, Int.reduceNeg, Int.reduceToNat, Nat.reduceAdd]
          exact ih'
        · have c' : ¬ (bkF ln m : Int) = (b : Int) := by omega
          have S15 := osp_N (M 15) m1F c
          have S16 := osp_N (M 16) m1F c
          rw [← S15, ← S16] at ih'
          simp (disch := omega) only [zrw_n, e11, e17, e21, c', B_X1_closeSpans_43, zbi_some, zbl_some, zbv_some, zbi_none, zbl_none, zbv_none, zbi_ite, zbl_ite, zbv_ite, zbZ, zbO, zc_lt, zc_le, zc_ge, zc_gt, zc_eq, zk0, zk1, zk2, zk3, zk4, zk5, zk6, zk7, zk8, zk9, zk10, zk11, zk12, zk14, zk15, zk16, zk17, zk19, zk20, zk21, zk24, zk25, zk30, zk32, zk36, zk40, zk45, zk50, zk64, zk97, zk99, zk100, zk102, zk122, zk128, zk255, zk800, zk801, zk900, zk999, zk1000, zk1997, zk9999, zk10000, zk100000, zk99999, zk9999999, zk999999999, zk2147483647, zlc0, zlc1, zlc2, zlc3, zlc4, zlc23, zlc99, zlc100, zlc9999999, zlc999999999999, zlc1073741824, zi_neg, zi_add, zi_sub, zi_mul, zl_neg, zl_add, zl_sub, zl_mul, zi_toInt, zi_nat, zi_le, zi_lt, zi_eq, zl_le, zl_lt, zl_eq, zl_toInt, zl_of32, zi_of64, zi_div, zl_div, zmodI, ↓reduceIte, zTle, zFle, zTlt, zFlt, zTeq, zFeq, if_true, if_false, and_self, and_true, true_and, and_false, false_and, or_self, or_true, true_or, or_false, false_or, not_true_eq_false, not_false_eq_true, zcastA, zcastL, znatC, zab, Int.reduceAdd, Int.reduceSub, Int.reduceMul, Int.reduceNeg, Int.reduceToNat, Nat.reduceAdd]
          exact ih'
    have := Lp (n - b) b (by omega) (Nat.le_refl b)
    rw [osp_b, osp_b, zrw_id, zrw_id] at this
    exact this
  · rw [if_neg z]
    show zE zc_X1_closeSpans (zF zT0 d) 2 [.ref 11, .int (zi (b : Int)), .int (zi (b : Int))] [] (zm len M ν) = _
    rw [B_X1_closeSpans_2]
    simp (disch := omega) only [e11, e21, z, zbi_some, zbl_some, zbv_some, zbi_none, zbl_none, zbv_none, zbi_ite, zbl_ite, zbv_ite, zbZ, zbO, zc_lt, zc_le, zc_ge, zc_gt, zc_eq, zk0, zk1, zk2, zk3, zk4, zk5, zk6, zk7, zk8, zk9, zk10, zk11, zk12, zk14, zk15, zk16, zk17, zk19, zk20, zk21, zk24, zk25, zk30, zk32, zk36, zk40, zk45, zk50, zk64, zk97, zk99, zk100, zk102, zk122, zk128, zk255, zk800, zk801, zk900, zk999, zk1000, zk1997, zk9999, zk10000, zk100000, zk99999, zk9999999, zk999999999, zk2147483647, zlc0, zlc1, zlc2, zlc3, zlc4, zlc23, zlc99, zlc100, zlc9999999, zlc999999999999, zlc1073741824, zi_neg, zi_add, zi_sub, zi_mul, zl_neg, zl_add, zl_sub, zl_mul, zi_toInt, zi_nat, zi_le, zi_lt, zi_eq, zl_le, zl_lt, zl_eq, zl_toInt, zl_of32, zi_of64, zi_div, zl_div, zmodI, ↓reduceIte, zTle, zFle, zTlt, zFlt, zTeq, zFeq, if_true, if_false, and_self, and_true, true_and, and_false, false_and, or_self, or_true, true_or, or_false, false_or, not_true_eq_false, not_false_eq_true, zcastA, zcastL, znatC, zab, Int.reduceAdd, Int.reduceSub, Int.reduceMul, Int.reduceNeg, Int.reduceToNat, Nat.reduceAdd]
/-- what a BLOCK comes to, the class's -/
def SolB (ln : Nat → Ln) (n b : Nat) (M : zMu) : Prop := M 21 b = zi (fiF ln n b) ∧ ∀ j, j < n → bkF ln j = b → M 15 j = zi (sLo ln n b j) ∧ M 16 j = zi (sHi ln n b j)
theorem SF_b (h : LV ln n) (hn : n ≤ 24) (b : Nat) : 0 ≤ (SF ln n b).1 ∧ (SF ln n b).1 ≤ 1000000000 := by
  have w0 := mW_b h b 0
  have a := fX_b h hn b (0, lo0 ln n b, hi0 ln n b) ((mW (mkF ln b n) 0).toNat + 1) (by omega)
  have a : 0 ≤ (SF ln n b).1 ∧ (SF ln n b).1 ≤ 0 + 10000000 * (((mW (mkF ln b n) 0).toNat + 1 : Nat) : Int) := a
  omega
theorem F_solve (d len : Nat) {M : zMu} (ν : zNu) (h : LV ln n) (hn : n ≤ 24) (hD : DBd M ln n) (hb : b < n) (hbb : bkF ln b = b) : ∃ M', zF zT0 (d + 4) 21 [.ref 11, .int (zi (b : Int))] (zm len M ν) = some (.null, zm len M' ν) ∧ SolB ln n b M' ∧ frB ln b M M' := by
  have w0 := mW_b h b 0
  have sb := SF_b h hn b
  obtain ⟨M1, A, A1, A2⟩ := F_open (d + 2) len ν h hn hD hb hbb
  have hD1 := dbd_c hD A2.1
  obtain ⟨M2, w5, w7, w8, w9, w10, B, B1, B2⟩ := F_fx d len ν h hn hb hbb (0, lo0 ln n b, hi0 ln n b) ((mW (mkF ln b n) 0).toNat + 1) 0 (by omega) M1 zU zU zU zU zU hD1 A1
  have hD2 := dbd_c hD1 B2.1
  obtain ⟨M3, hM3⟩ : ∃ M3, M3 = zup M2 21 b (zi (fiF ln n b)) := ⟨_, rfl⟩
  have f3 : frS M2 M3 := by rw [hM3]; exact frS_up (frS_rf M2) (by omega)
  have hD3 := dbd_c hD2 f3
  have fb : 0 ≤ fiF ln n b ∧ fiF ln n b ≤ 999999999 := by unfold fiF; split <;> omega
  have C := F_close (d + 2) len ν hn hD3 hb fb (by rw [hM3]; simp (disch := omega) only [zup_at, upd_eq, upd_ne, ne_eq, Nat.reduceEqDiff, ↓reduceIte, if_true, if_false])
  have m03 := ((hD2.2.2.2 b hb hbb).2.2.2.2.2 0 (by decide)).2.2
  rw [Nat.add_zero] at m03
  have i0 : (2 * (b : Int)).toNat = 2 * b := by omega
  have B : zE zc_X1_solve (zF zT0 (d + 3)) 19 [.ref 11, .int (zi (b : Int)), .int (zi (2 * (b : Int))), .int (zi (2 * (b : Int) + 1)), .long (zl 0), zU, .int (zi 0), zU, zU, zU, zU] [] (zm len M1 ν) = zE zc_X1_solve (zF zT0 (d + 3)) 19 [.ref 11, .int (zi (b : Int)), .int (zi (2 * (b : Int))), .int (zi (2 * (b : Int) + 1)), .long (zl (SF ln n b).1), w5, .int (zi (((mW (mkF ln b n) 0).toNat + 1 : Nat) : Int)), w7, w8, w9, w10] [] (zm len M2 ν) := B
  have fz : fiF ln n b = 0 ↔ (SF ln n b).1 = 0 := by unfold fiF; split <;> omega
  refine ⟨if fiF ln n b = 0 then zrw (zrw M3 15 (osp ln b (M3 15) m1F n)) 16 (osp ln b (M3 16) m1F n) else M3, ?_, ⟨?_, fun j hj hjb => ?_⟩, ?_⟩
  · have z9 : (999999999 : Int64) = zl 999999999 := rfl
    have e : (if (999999999 : Int64) < zl (SF ln n b).1 then (999999999 : Int64) else zl (SF ln n b).1).toInt32 = zi (fiF ln n b) := by
      unfold fiF
      rw [z9]
      by_cases q : 999999999 < (SF ln n b).1
      · rw [if_pos q, if_pos (by rw [zl_lt (by omega)]; exact q), zi_of64]
      · rw [if_neg q, if_neg (by rw [zl_lt (by omega)]; exact q), zi_of64]
    rw [B_X1_solve]
    simp (disch := omega) only [A, B_X1_solve_13, B, zbi_some, zbl_some, zbv_some, zbi_none, zbl_none, zbv_none, zbi_ite, zbl_ite, zbv_ite, zbZ, zbO, zc_lt, zc_le, zc_ge, zc_gt, zc_eq, zk0, zk1, zk2, zk3, zk4, zk5, zk6, zk7, zk8, zk9, zk10, zk11, zk12, zk14, zk15, zk16, zk17, zk19, zk20, zk21, zk24, zk25, zk30, zk32, zk36, zk40, zk45, zk50, zk64, zk97, zk99, zk100, zk102, zk122, zk128, zk255, zk800, zk801, zk900, zk999, zk1000, zk1997, zk9999, zk10000, zk100000, zk99999, zk9999999, zk999999999, zk2147483647, zlc0, zlc1, zlc2, zlc3, zlc4, zlc23, zlc99, zlc100, zlc9999999, zlc999999999999, zlc1073741824, zi_neg, zi_add, zi_sub, zi_mul, zl_neg, zl_add, zl_sub, zl_mul, zi_toInt, zi_nat, zi_le, zi_lt, zi_eq, zl_le, zl_lt, zl_eq, zl_toInt, zl_of32, zi_of64, zi_div, zl_div, zmodI, ↓reduceIte, zTle, zFle, zTlt, zFlt, zTeq, zFeq, if_true, if_false, and_self, and_true, true_and, and_false, false_and, or_self, or_true, true_or, or_false, false_or, not_true_eq_false, not_false_eq_true, zcastA, zcastL, znatC, zab, Int.reduceAdd, Int.reduceSub, Int.reduceMul, Int.reduceNeg, Int.reduceToNat, Nat.reduceAdd]
    rw [B_X1_solve_19, e]
    simp (disch := omega) only [i0, m03, zbi_some, zbl_some, zbv_some, zbi_none, zbl_none, zbv_none, zbi_ite, zbl_ite, zbv_ite, zbZ, zbO, zc_lt, zc_le, zc_ge, zc_gt, zc_eq, zk0, zk1, zk2, zk3, zk4, zk5, zk6, zk7, zk8, zk9, zk10, zk11, zk12, zk14, zk15, zk16, zk17, zk19, zk20, zk21, zk24, zk25, zk30, zk32, zk36, zk40, zk45, zk50, zk64, zk97, zk99, zk100, zk102, zk122, zk128, zk255, zk800, zk801, zk900, zk999, zk1000, zk1997, zk9999, zk10000, zk100000, zk99999, zk9999999, zk999999999, zk2147483647, zlc0, zlc1, zlc2, zlc3, zlc4, zlc23, zlc99, zlc100, zlc9999999, zlc999999999999, zlc1073741824, zi_neg, zi_add, zi_sub, zi_mul, zl_neg, zl_add, zl_sub, zl_mul, zi_toInt, zi_nat, zi_le, zi_lt, zi_eq, zl_le, zl_lt, zl_eq, zl_toInt, zl_of32, zi_of64, zi_div, zl_div, zmodI, ↓reduceIte, zTle, zFle, zTlt, zFlt, zTeq, zFeq, if_true, if_false, and_self, and_true, true_and, and_false, false_and, or_self, or_true, true_or, or_false, false_or, not_true_eq_false, not_false_eq_true, zcastA, zcastL, znatC, zab, Int.reduceAdd, Int.reduceSub, Int.reduceMul, Int.reduceNeg, Int.reduceToNat, Nat.reduceAdd]
    rw [← hM3]
    simp (disch := omega) only [C, B_X1_solve_199, zbi_some, zbl_some, zbv_some, zbi_none, zbl_none, zbv_none, zbi_ite, zbl_ite, zbv_ite, zbZ, zbO, zc_lt, zc_le, zc_ge, zc_gt, zc_eq, zk0, zk1, zk2, zk3, zk4, zk5, zk6, zk7, zk8, zk9, zk10, zk11, zk12, zk14, zk15, zk16, zk17, zk19, zk20, zk21, zk24, zk25, zk30, zk32, zk36, zk40, zk45, zk50, zk64, zk97, zk99, zk100, zk102, zk122, zk128, zk255, zk800, zk801, zk900, zk999, zk1000, zk1997, zk9999, zk10000, zk100000, zk99999, zk9999999, zk999999999, zk2147483647, zlc0, zlc1, zlc2, zlc3, zlc4, zlc23, zlc99, zlc100, zlc9999999, zlc999999999999, zlc1073741824, zi_neg, zi_add, zi_sub, zi_mul, zl_neg, zl_add, zl_sub, zl_mul, zi_toInt, zi_nat, zi_le, zi_lt, zi_eq, zl_le, zl_lt, zl_eq, zl_toInt, zl_of32, zi_of64, zi_div, zl_div, zmodI, ↓reduceIte, zTle, zFle, zTlt, zFlt, zTeq, zFeq, if_true, if_false, and_self, and_true, true_and, and_false, false_and, or_self, or_true, true_or, or_false, false_or, not_true_eq_false, not_false_eq_true, zcastA, zcastL, znatC, zab, Int.reduceAdd, Int.reduceSub, Int.reduceMul, Int.reduceNeg, Int.reduceToNat, Nat.reduceAdd]
  · by_cases z : fiF ln n b = 0
    · rw [if_pos z, zrw_n _ _ (show 21 ≠ 16 by decide), zrw_n _ _ (show 21 ≠ 15 by decide), hM3]
      simp (disch := omega) only [zup_at, upd_eq, upd_ne, ne_eq, Nat.reduceEqDiff, ↓reduceIte, if_true, if_false]
    · rw [if_neg z, hM3]
      simp (disch := omega) only [zup_at, upd_eq, upd_ne, ne_eq, Nat.reduceEqDiff, ↓reduceIte, if_true, if_false]
  · unfold sLo sHi
    by_cases z : fiF ln n b = 0
    · rw [if_pos z, if_pos (fz.mp z), if_pos (fz.mp z), zrw_n _ _ (show 15 ≠ 16 by decide), zrw_s, zrw_s]
      unfold osp m1F
      rw [if_pos ⟨hj, hjb⟩, if_pos ⟨hj, hjb⟩]
      exact ⟨rfl, rfl⟩
    · obtain ⟨⟨a1, _⟩, b1, _⟩ := B1 j hj hjb
      rw [if_neg z, if_neg (fun q => z (fz.mpr q)), if_neg (fun q => z (fz.mpr q)), hM3]
      refine ⟨?_, ?_⟩
      · simp (disch := omega) only [zup_at, upd_eq, upd_ne, ne_eq, Nat.reduceEqDiff, ↓reduceIte, if_true, if_false]; exact a1
      · simp (disch := omega) only [zup_at, upd_eq, upd_ne, ne_eq, Nat.reduceEqDiff, ↓reduceIte, if_true, if_false]; exact b1
  · refine frB_tr A2 (frB_tr B2 ?_)
    by_cases z : fiF ln n b = 0
    · rw [if_pos z]
      refine ⟨fun r a1 a2 a3 => ?_, fun j hj => ⟨?_, ?_⟩, fun c hc => ?_⟩
      · rw [zrw_n _ _ a2, zrw_n _ _ a1]
        exact f3 r a1 a2 a3
      · rw [zrw_n _ _ (show 15 ≠ 16 by decide), zrw_s]
        unfold osp
        rw [if_neg (fun q => hj q.2), hM3]
        simp (disch := omega) only [zup_at, upd_eq, upd_ne, ne_eq, Nat.reduceEqDiff, ↓reduceIte, if_true, if_false]
      · rw [zrw_s]
        unfold osp
        rw [if_neg (fun q => hj q.2), hM3]
        simp (disch := omega) only [zup_at, upd_eq, upd_ne, ne_eq, Nat.reduceEqDiff, ↓reduceIte, if_true, if_false]
      · rw [zrw_n _ _ (show 21 ≠ 16 by decide), zrw_n _ _ (show 21 ≠ 15 by decide), hM3]
        simp (disch := omega) only [zup_at, upd_eq, upd_ne, ne_eq, Nat.reduceEqDiff, ↓reduceIte, if_true, if_false]
    · rw [if_neg z]
      refine ⟨f3, fun j hj => ⟨?_, ?_⟩, fun c hc => ?_⟩
      · rw [hM3]; simp (disch := omega) only [zup_at, upd_eq, upd_ne, ne_eq, Nat.reduceEqDiff, ↓reduceIte, if_true, if_false]
      · rw [hM3]; simp (disch := omega) only [zup_at, upd_eq, upd_ne, ne_eq, Nat.reduceEqDiff, ↓reduceIte, if_true, if_false]
      · rw [hM3]; simp (disch := omega) only [zup_at, upd_eq, upd_ne, ne_eq, Nat.reduceEqDiff, ↓reduceIte, if_true, if_false]
/-- all BLOCKS -/
theorem F_all (d len : Nat) (ν : zNu) (h : LV ln n) (hn : n ≤ 24) : ∀ k m : Nat, m + k = n → ∀ M : zMu, DBd M ln n → (∀ c, c < m → bkF ln c = c → SolB ln n c M) → ∃ M', zE zc_X1_read (zF zT0 (d + 4)) 61 [.ref 11, .int (zi (m : Int))] [] (zm len M ν) = some (.int (zi 1), zm len M' ν) ∧ DBd M' ln n ∧ (∀ c, c < n → bkF ln c = c → SolB ln n c M') ∧ frS M M' := by
  intro k
  induction k with
  | zero =>
    intro m hm M hD hS
    have : m = n := by omega
    subst this
    have e11 := hD.1
    refine ⟨M, ?_, hD, hS, frS_rf M⟩
    rw [B_X1_read_61]
    simp (disch := omega) only [e11, zbi_some, zbl_some, zbv_some, zbi_none, zbl_none, zbv_none, zbi_ite, zbl_ite, zbv_ite, zbZ, zbO, zc_lt, zc_le, zc_ge, zc_gt, zc_eq, zk0, zk1, zk2, zk3, zk4, zk5, zk6, zk7, zk8, zk9, zk10, zk11, zk12, zk14, zk15, zk16, zk17, zk19, zk20, zk21, zk24, zk25, zk30, zk32, zk36, zk40, zk45, zk50, zk64, zk97, zk99, zk100, zk102, zk122, zk128, zk255, zk800, zk801, zk900, zk999, zk1000, zk1997, zk9999, zk10000, zk100000, zk99999, zk9999999, zk999999999, zk2147483647, zlc0, zlc1, zlc2, zlc3, zlc4, zlc23, zlc99, zlc100, zlc9999999, zlc999999999999, zlc1073741824, zi_neg, zi_add, zi_sub, zi_mul, zl_neg, zl_add, zl_sub, zl_mul, zi_toInt, zi_nat, zi_le, zi_lt, zi_eq, zl_le, zl_lt, zl_eq, zl_toInt, zl_of32, zi_of64, zi_div, zl_div, zmodI, ↓reduceIte, zTle, zFle, zTlt, zFlt, zTeq, zFeq, if_true, if_false, and_self, and_true, true_and, and_false, false_and, or_self, or_true, true_or, or_false, false_or, not_true_eq_false, not_false_eq_true, zcastA, zcastL, znatC, zab, Int.reduceAdd, Int.reduceSub, Int.reduceMul, Int.reduceNeg, Int.reduceToNat, Nat.reduceAdd]
  | succ k ih =>
    intro m hm M hD hS
    have e11 := hD.1
    have e17 := (hD.2.1 m (by omega)).2.2.2
    have bl := bkF_le ln m
    by_cases c : bkF ln m = m
    · have c' : (bkF ln m : Int) = (m : Int) := by omega
      obtain ⟨M1, A, A1, A2⟩ := F_solve d len ν h hn hD (show m < n by omega) c
      have hS1 : ∀ c, c < m + 1 → bkF ln c = c → SolB ln n c M1 := fun x hx hxx => by
        by_cases z : x = m
        · rw [z]
          exact A1
        · obtain ⟨s1, s2⟩ := hS x (by omega) hxx
          refine ⟨by rw [A2.2.2 x z]; exact s1, fun j hj hjx => ?_⟩
          have y := A2.2.1 j (by rw [hjx]; exact z)
          rw [y.1, y.2]
          exact s2 j hj hjx
      obtain ⟨M2, B, B1, B2, B3⟩ := ih (m + 1) (by omega) M1 (dbd_c hD A2.1) hS1
      refine ⟨M2, ?_, B1, B2, frS_tr A2.1 B3⟩
      rw [← B, B_X1_read_61]
      simp (disch := omega) only [e11, e17, c', A, B_X1_read_84, zbi_some, zbl_some, zbv_some, zbi_none, zbl_none, zbv_none, zbi_ite, zbl_ite, zbv_ite, zbZ, zbO, zc_lt, zc_le, zc_ge, zc_gt, zc_eq, zk0, zk1, zk2, zk3, zk4, zk5, zk6, zk7, zk8, zk9, zk10, zk11, zk12, zk14, zk15, zk16, zk17, zk19, zk20, zk21, zk24, zk25, zk30, zk32, zk36, zk40, zk45, zk50, zk64, zk97, zk99, zk100, zk102, zk122, zk128, zk255, zk800, zk801, zk900, zk999, zk1000, zk1997, zk9999, zk10000, zk100000, zk99999, zk9999999, zk999999999, zk2147483647, zlc0, zlc1, zlc2, zlc3, zlc4, zlc23, zlc99, zlc100, zlc9999999, zlc999999999999, zlc1073741824, zi_neg, zi_add, zi_sub, zi_mul, zl_neg, zl_add, zl_sub, zl_mul, zi_toInt, zi_nat, zi_le, zi_lt, zi_eq, zl_le, zl_lt, zl_eq, zl_toInt, zl_of32, zi_of64, zi_div, zl_div, zmodI, ↓reduceIte, zTle, zFle, zTlt, zFlt, zTeq, zFeq, if_true, if_false, and_self, and_true, true_and, and_false, false_and, or_self, or_true, true_or, or_false, false_or, not_true_eq_false, not_false_eq_true, zcastA, zcastL, znatC, zab, Int.reduceAdd, Int.reduceSub, Int.reduceMul, Int.reduceNeg, Int.reduceToNat, Nat.reduceAdd]
    · have c' : ¬ (bkF ln m : Int) = (m : Int) := by omega
      obtain ⟨M2, B, B1, B2, B3⟩ := ih (m + 1) (by omega) M hD (fun x hx hxx => hS x (by
        by_cases z : x = m
        · rw [z] at hxx
          exact absurd hxx c
        · omega) hxx)
      refine ⟨M2, ?_, B1, B2, B3⟩
      rw [← B, B_X1_read_61]
      simp (disch := omega) only [e11, e17, c', B_X1_read_84, zbi_some, zbl_some, zbv_some, zbi_none, zbl_none, zbv_none, zbi_ite, zbl_ite, zbv_ite, zbZ, zbO, zc_lt, zc_le, zc_ge, zc_gt, zc_eq, zk0, zk1, zk2, zk3, zk4, zk5, zk6, zk7, zk8, zk9, zk10, zk11, zk12, zk14, zk15, zk16, zk17, zk19, zk20, zk21, zk24, zk25, zk30, zk32, zk36, zk40, zk45, zk50, zk64, zk97, zk99, zk100, zk102, zk122, zk128, zk255, zk800, zk801, zk900, zk999, zk1000, zk1997, zk9999, zk10000, zk100000, zk99999, zk9999999, zk999999999, zk2147483647, zlc0, zlc1, zlc2, zlc3, zlc4, zlc23, zlc99, zlc100, zlc9999999, zlc999999999999, zlc1073741824, zi_neg, zi_add, zi_sub, zi_mul, zl_neg, zl_add, zl_sub, zl_mul, zi_toInt, zi_nat, zi_le, zi_lt, zi_eq, zl_le, zl_lt, zl_eq, zl_toInt, zl_of32, zi_of64, zi_div, zl_div, zmodI, ↓reduceIte, zTle, zFle, zTlt, zFlt, zTeq, zFeq, if_true, if_false, and_self, and_true, true_and, and_false, false_and, or_self, or_true, true_or, or_false, false_or, not_true_eq_false, not_false_eq_true, zcastA, zcastL, znatC, zab, Int.reduceAdd, Int.reduceSub, Int.reduceMul, Int.reduceNeg, Int.reduceToNat, Nat.reduceAdd]
end SC4

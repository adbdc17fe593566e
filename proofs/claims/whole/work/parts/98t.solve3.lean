/-! TABLET solved: the class's fills -/
abbrev Stt : Type := Int × (Nat → Int) × (Nat → Int)
def loB (ln : Nat → Ln) (n b : Nat) (x y : Int) : Int := if clF ln b n = 0 then 0 else (if 0 < dueF ln n b x y then dueF ln n b x y else 0)
def h0B (ln : Nat → Ln) (n b : Nat) : Int := if loF ln b n = -1 then 0 else 99999
def hiB (ln : Nat → Ln) (n b : Nat) (x y : Int) : Int := if clF ln b n = 0 then h0B ln n b else (if dueF ln n b x y < h0B ln n b then dueF ln n b x y else h0B ln n b)
def stp (ln : Nat → Ln) (n b : Nat) (x y : Int) (S : Stt) : Stt := if loB ln n b x y ≤ hiB ln n b x y then (S.1 + (hiB ln n b x y - loB ln n b x y + 1), wmn (wmn (wmn S.2.1 (loF ln b n) (loB ln n b x y)) (mL (mkF ln b n) 0) (vlM ln n b (mL (mkF ln b n) 0) x y)) (mL (mkF ln b n) 1) (vlM ln n b (mL (mkF ln b n) 1) x y), wmx (wmx (wmx S.2.2 (loF ln b n) (hiB ln n b x y)) (mL (mkF ln b n) 0) (vlM ln n b (mL (mkF ln b n) 0) x y)) (mL (mkF ln b n) 1) (vlM ln n b (mL (mkF ln b n) 1) x y)) else S
def fY (ln : Nat → Ln) (n b : Nat) (x : Int) : Nat → Stt → Stt
  | 0, S => S
  | y + 1, S => stp ln n b x (y : Int) (fY ln n b x y S)
def fX (ln : Nat → Ln) (n b : Nat) : Nat → Stt → Stt
  | 0, S => S
  | x + 1, S => fY ln n b (x : Int) ((mW (mkF ln b n) 1).toNat + 1) (fX ln n b x S)
def SF (ln : Nat → Ln) (n b : Nat) : Stt := fX ln n b ((mW (mkF ln b n) 0).toNat + 1) (0, lo0 ln n b, hi0 ln n b)
def fiF (ln : Nat → Ln) (n b : Nat) : Int := if 999999999 < (SF ln n b).1 then 999999999 else (SF ln n b).1
def sLo (ln : Nat → Ln) (n b : Nat) (j : Nat) : Int := if (SF ln n b).1 = 0 then -1 else (SF ln n b).2.1 j
def sHi (ln : Nat → Ln) (n b : Nat) (j : Nat) : Int := if (SF ln n b).1 = 0 then -1 else (SF ln n b).2.2 j
theorem due_b {ln : Nat → Ln} {n : Nat} (h : LV ln n) (hn : n ≤ 24) (b : Nat) {x y : Int} (hx : 0 ≤ x ∧ x ≤ 99) (hy : 0 ≤ y ∧ y ≤ 99) : -1445385546 ≤ dueF ln n b x y ∧ dueF ln n b x y ≤ 1445385546 := by
  have a := toF_b b n h.1
  have s0 := sgM_b h b 0 hx
  have s1 := sgM_b h b 1 hy
  have t : -1445385546 ≤ dueT ln n b x y ∧ dueT ln n b x y ≤ 1445385546 := by unfold dueT; omega
  unfold dueF
  split
  · exact t
  · have := sg_b (s := (ln (loF ln b n).toNat).1) t
    omega
theorem lhB_b {ln : Nat → Ln} {n : Nat} (h : LV ln n) (hn : n ≤ 24) (b : Nat) {x y : Int} (hx : 0 ≤ x ∧ x ≤ 99) (hy : 0 ≤ y ∧ y ≤ 99) : (0 ≤ loB ln n b x y ∧ loB ln n b x y ≤ 1445385546) ∧ -1445385546 ≤ hiB ln n b x y ∧ hiB ln n b x y ≤ 99999 := by
  have a := due_b h hn b hx hy
  have c : 0 ≤ h0B ln n b ∧ h0B ln n b ≤ 99999 := by unfold h0B; split <;> omega
  unfold loB hiB
  split
  · omega
  · split <;> split <;> omega
theorem mW_b {ln : Nat → Ln} {n : Nat} (h : LV ln n) (b j : Nat) : 0 ≤ mW (mkF ln b n) j ∧ mW (mkF ln b n) j ≤ 99 := by
  rcases mk_r h b j with ⟨_, _, a⟩ | ⟨_, _, _, _, _, a, _⟩ <;> omega
theorem stp_b {ln : Nat → Ln} {n : Nat} (h : LV ln n) (hn : n ≤ 24) (b : Nat) {x y : Int} (hx : 0 ≤ x ∧ x ≤ 99) (hy : 0 ≤ y ∧ y ≤ 99) (S : Stt) : S.1 ≤ (stp ln n b x y S).1 ∧ (stp ln n b x y S).1 ≤ S.1 + 100000 := by
  have a := lhB_b h hn b hx hy
  unfold stp
  split
  · show S.1 ≤ S.1 + (hiB ln n b x y - loB ln n b x y + 1) ∧ S.1 + (hiB ln n b x y - loB ln n b x y + 1) ≤ S.1 + 100000
    omega
  · omega
theorem fY_b {ln : Nat → Ln} {n : Nat} (h : LV ln n) (hn : n ≤ 24) (b : Nat) {x : Int} (hx : 0 ≤ x ∧ x ≤ 99) (S : Stt) : ∀ y : Nat, y ≤ 100 → S.1 ≤ (fY ln n b x y S).1 ∧ (fY ln n b x y S).1 ≤ S.1 + 100000 * (y : Int)
  | 0, _ => by show S.1 ≤ S.1 ∧ S.1 ≤ S.1 + 100000 * ((0 : Nat) : Int); omega
  | y + 1, hy => by
    have a := fY_b h hn b hx S y (by omega)
    have c := stp_b h hn b hx (y := (y : Int)) (by omega) (fY ln n b x y S)
    show S.1 ≤ (stp ln n b x (y : Int) (fY ln n b x y S)).1 ∧ (stp ln n b x (y : Int) (fY ln n b x y S)).1 ≤ S.1 + 100000 * ((y + 1 : Nat) : Int)
    omega
theorem fX_b {ln : Nat → Ln} {n : Nat} (h : LV ln n) (hn : n ≤ 24) (b : Nat) (S : Stt) : ∀ x : Nat, x ≤ 100 → S.1 ≤ (fX ln n b x S).1 ∧ (fX ln n b x S).1 ≤ S.1 + 10000000 * (x : Int)
  | 0, _ => by show S.1 ≤ S.1 ∧ S.1 ≤ S.1 + 10000000 * ((0 : Nat) : Int); omega
  | x + 1, hx => by
    have a := fX_b h hn b S x (by omega)
    have w := mW_b h b 1
    have c := fY_b h hn b (x := (x : Int)) (by omega) (fX ln n b x S) ((mW (mkF ln b n) 1).toNat + 1) (by omega)
    show S.1 ≤ (fY ln n b (x : Int) ((mW (mkF ln b n) 1).toNat + 1) (fX ln n b x S)).1 ∧ (fY ln n b (x : Int) ((mW (mkF ln b n) 1).toNat + 1) (fX ln n b x S)).1 ≤ S.1 + 10000000 * ((x + 1 : Nat) : Int)
    omega
section SC3
variable {ln : Nat → Ln} {n b : Nat}
theorem F_pre (d len : Nat) {M : zMu} (ν : zNu) (h : LV ln n) (hn : n ≤ 24) (hD : DBd M ln n) (hb : b < n) (hbb : bkF ln b = b) (c : Int64) {x y : Nat} (hx : x ≤ 99) (hy : (y : Int) ≤ mW (mkF ln b n) 1) (v5 v8 v9 v10 : Value) : ∃ v10', zE zc_X1_solve (zF zT0 (d + 3)) 33 [.ref 11, .int (zi (b : Int)), .int (zi (2 * (b : Int))), .int (zi (2 * (b : Int) + 1)), .long c, v5, .int (zi (x : Int)), .int (zi (y : Int)), v8, v9, v10] [] (zm len M ν) = zE zc_X1_solve (zF zT0 (d + 3)) 103 [.ref 11, .int (zi (b : Int)), .int (zi (2 * (b : Int))), .int (zi (2 * (b : Int) + 1)), .long c, v5, .int (zi (x : Int)), .int (zi (y : Int)), .int (zi (loB ln n b (x : Int) (y : Int))), .int (zi (hiB ln n b (x : Int) (y : Int))), v10'] [] (zm len M ν) := by
  have w1 := mW_b h b 1
  obtain ⟨e19, _, e22, _⟩ := hD.2.2.2 b hb hbb
  obtain ⟨_, _, m13⟩ := (hD.2.2.2 b hb hbb).2.2.2.2.2 1 (by decide)
  have i1 : (2 * (b : Int) + 1).toNat = 2 * b + 1 := by omega
  have lr := loF_r ln b n
  have zm1 : (-1 : Int32) = zi (-1) := rfl
  have D := F_due d len ν h hn hD hb hbb (x : Int) (y : Int)
  have db := due_b h hn b (x := (x : Int)) (y := (y : Int)) (by omega) (by omega)
  unfold loB hiB h0B
  rw [B_X1_solve_33]
  rcases clF_01 ln b n with c0 | c0
  · rw [c0] at e19
    rw [if_pos c0, if_pos c0]
    refine ⟨v10, ?_⟩
    by_cases z : loF ln b n = -1
    · rw [if_pos z]
      simp (disch := omega) only [i1, m13, e22, z, zm1, B_X1_solve_63, e19, zbi_some, zbl_some, zbv_some, zbi_none, zbl_none, zbv_none, zbi_ite, zbl_ite, zbv_ite, zbZ, zbO, zc_lt, zc_le, zc_ge, zc_gt, zc_eq, zk0, zk1, zk2, zk3, zk4, zk5, zk6, zk7, zk8, zk9, zk10, zk11, zk12, zk14, zk15, zk16, zk17, zk19, zk20, zk21, zk24, zk25, zk30, zk32, zk36, zk40, zk45, zk50, zk64, zk97, zk99, zk100, zk102, zk122, zk128, zk255, zk800, zk801, zk900, zk999, zk1000, zk1997, zk9999, zk10000, zk100000, zk99999, zk9999999, zk999999999, zk2147483647, zlc0, zlc1, zlc2, zlc3, zlc4, zlc23, zlc99, zlc100, zlc9999999, zlc999999999999, zlc1073741824, zi_neg, zi_add, zi_sub, zi_mul, zl_neg, zl_add, zl_sub, zl_mul, zi_toInt, zi_nat, zi_le, zi_lt, zi_eq, zl_le, zl_lt, zl_eq, zl_toInt, zl_of32, zi_of64, zi_div, zl_div, zmodI, ↓reduceIte, zTle, zFle, zTlt, zFlt, zTeq, zFeq, if_true, if_false, and_self, and_true, true_and, and_false, false_and, or_self, or_true, true_or, or_false, false_or, not_true_eq_false, not_false_eq_true, zcastA, zcastL, znatC, zab, Int.reduceAdd, Int.reduceSub, Int.reduceMul, Int.reduceNeg, Int.reduceToNat, Nat.reduceAdd]
    · rw [if_neg z]
      simp (disch := omega) only [i1, m13, e22, z, zm1, B_X1_solve_63, e19, zbi_some, zbl_some, zbv_some, zbi_none, zbl_none, zbv_none, zbi_ite, zbl_ite, zbv_ite, zbZ, zbO, zc_lt, zc_le, zc_ge, zc_gt, zc_eq, zk0, zk1, zk2, zk3, zk4, zk5, zk6, zk7, zk8, zk9, zk10, zk11, zk12, zk14, zk15, zk16, zk17, zk19, zk20, zk21, zk24, zk25, zk30, zk32, zk36, zk40, zk45, zk50, zk64, zk97, zk99, zk100, zk102, zk122, zk128, zk255, zk800, zk801, zk900, zk999, zk1000, zk1997, zk9999, zk10000, zk100000, zk99999, zk9999999, zk999999999, zk2147483647, zlc0, zlc1, zlc2, zlc3, zlc4, zlc23, zlc99, zlc100, zlc9999999, zlc999999999999, zlc1073741824, zi_neg, zi_add, zi_sub, zi_mul, zl_neg, zl_add, zl_sub, zl_mul, zi_toInt, zi_nat, zi_le, zi_lt, zi_eq, zl_le, zl_lt, zl_eq, zl_toInt, zl_of32, zi_of64, zi_div, zl_div, zmodI, ↓reduceIte, zTle, zFle, zTlt, zFlt, zTeq, zFeq, if_true, if_false, and_self, and_true, true_and, and_false, false_and, or_self, or_true, true_or, or_false, false_or, not_true_eq_false, not_false_eq_true, zcastA, zcastL, znatC, zab, Int.reduceAdd, Int.reduceSub, Int.reduceMul, Int.reduceNeg, Int.reduceToNat, Nat.reduceAdd]
  · rw [c0] at e19
    have c1 : ¬ clF ln b n = 0 := by omega
    rw [if_neg c1, if_neg c1]
    refine ⟨.int (zi (dueF ln n b (x : Int) (y : Int))), ?_⟩
    by_cases z : loF ln b n = -1
    · rw [if_pos z]
      simp (disch := omega) only [i1, m13, e22, z, zm1, B_X1_solve_63, e19, D, B_X1_solve_83, zi_ite, zbi_some, zbl_some, zbv_some, zbi_none, zbl_none, zbv_none, zbi_ite, zbl_ite, zbv_ite, zbZ, zbO, zc_lt, zc_le, zc_ge, zc_gt, zc_eq, zk0, zk1, zk2, zk3, zk4, zk5, zk6, zk7, zk8, zk9, zk10, zk11, zk12, zk14, zk15, zk16, zk17, zk19, zk20, zk21, zk24, zk25, zk30, zk32, zk36, zk40, zk45, zk50, zk64, zk97, zk99, zk100, zk102, zk122, zk128, zk255, zk800, zk801, zk900, zk999, zk1000, zk1997, zk9999, zk10000, zk100000, zk99999, zk9999999, zk999999999, zk2147483647, zlc0, zlc1, zlc2, zlc3, zlc4, zlc23, zlc99, zlc100, zlc9999999, zlc999999999999, zlc1073741824, zi_neg, zi_add, zi_sub, zi_mul, zl_neg, zl_add, zl_sub, zl_mul, zi_toInt, zi_nat, zi_le, zi_lt, zi_eq, zl_le, zl_lt, zl_eq, zl_toInt, zl_of32, zi_of64, zi_div, zl_div, zmodI, ↓reduceIte, zTle, zFle, zTlt, zFlt, zTeq, zFeq, if_true, if_false, and_self, and_true, true_and, and_false, false_and, or_self, or_true, true_or, or_false, false_or, not_true_eq_false, not_false_eq_true, zcastA, zcastL, znatC, zab, Int.reduceAdd, Int.reduceSub, Int.reduceMul, Int.reduceNeg, Int.reduceToNat, Nat.reduceAdd]
    · rw [if_neg z]
      simp (disch := omega) only [i1, m13, e22, z, zm1, B_X1_solve_63, e19, D, B_X1_solve_83, zi_ite, zbi_some, zbl_some, zbv_some, zbi_none, zbl_none, zbv_none, zbi_ite, zbl_ite, zbv_ite, zbZ, zbO, zc_lt, zc_le, zc_ge, zc_gt, zc_eq, zk0, zk1, zk2, zk3, zk4, zk5, zk6, zk7, zk8, zk9, zk10, zk11, zk12, zk14, zk15, zk16, zk17, zk19, zk20, zk21, zk24, zk25, zk30, zk32, zk36, zk40, zk45, zk50, zk64, zk97, zk99, zk100, zk102, zk122, zk128, zk255, zk800, zk801, zk900, zk999, zk1000, zk1997, zk9999, zk10000, zk100000, zk99999, zk9999999, zk999999999, zk2147483647, zlc0, zlc1, zlc2, zlc3, zlc4, zlc23, zlc99, zlc100, zlc9999999, zlc999999999999, zlc1073741824, zi_neg, zi_add, zi_sub, zi_mul, zl_neg, zl_add, zl_sub, zl_mul, zi_toInt, zi_nat, zi_le, zi_lt, zi_eq, zl_le, zl_lt, zl_eq, zl_toInt, zl_of32, zi_of64, zi_div, zl_div, zmodI, ↓reduceIte, zTle, zFle, zTlt, zFlt, zTeq, zFeq, if_true, if_false, and_self, and_true, true_and, and_false, false_and, or_self, or_true, true_or, or_false, false_or, not_true_eq_false, not_false_eq_true, zcastA, zcastL, znatC, zab, Int.reduceAdd, Int.reduceSub, Int.reduceMul, Int.reduceNeg, Int.reduceToNat, Nat.reduceAdd]
theorem F_stp (d len : Nat) {M : zMu} (ν : zNu) (h : LV ln n) (hn : n ≤ 24) (hD : DBd M ln n) (hb : b < n) (hbb : bkF ln b = b) {S : Stt} (hR : RW ln n b M S.2.1 S.2.2) {x y : Nat} (hx : x ≤ 99) (hy : (y : Int) ≤ mW (mkF ln b n) 1) (v5 v8 v9 v10 : Value) : ∃ (M' : zMu) (w5 w8 w9 w10 : Value), zE zc_X1_solve (zF zT0 (d + 3)) 33 [.ref 11, .int (zi (b : Int)), .int (zi (2 * (b : Int))), .int (zi (2 * (b : Int) + 1)), .long (zl S.1), v5, .int (zi (x : Int)), .int (zi (y : Int)), v8, v9, v10] [] (zm len M ν) = zE zc_X1_solve (zF zT0 (d + 3)) 33 [.ref 11, .int (zi (b : Int)), .int (zi (2 * (b : Int))), .int (zi (2 * (b : Int) + 1)), .long (zl (stp ln n b (x : Int) (y : Int) S).1), w5, .int (zi (x : Int)), .int (zi ((y + 1 : Nat) : Int)), w8, w9, w10] [] (zm len M' ν) ∧ RW ln n b M' (stp ln n b (x : Int) (y : Int) S).2.1 (stp ln n b (x : Int) (y : Int) S).2.2 ∧ frB ln b M M' := by
  have w1 := mW_b h b 1
  obtain ⟨v10', P⟩ := F_pre d len ν h hn hD hb hbb (zl S.1) hx hy v5 v8 v9 v10
  have lb := lhB_b h hn b (x := (x : Int)) (y := (y : Int)) (by omega) (by omega)
  have e22 := (hD.2.2.2 b hb hbb).2.2.1
  have i0 : (2 * (b : Int)).toNat = 2 * b := by omega
  have i1 : (2 * (b : Int) + 1).toNat = 2 * b + 1 := by omega
  unfold stp
  by_cases f : loB ln n b (x : Int) (y : Int) ≤ hiB ln n b (x : Int) (y : Int)
  · rw [if_pos f]
    have hl : loF ln b n = -1 ∨ ∃ k : Nat, loF ln b n = (k : Int) ∧ k < n ∧ bkF ln k = b := by
      by_cases z : loF ln b n = -1
      · exact Or.inl z
      · obtain ⟨l, a1, a2, a3, _⟩ := loF_m ln b n z
        exact Or.inr ⟨l, a1, a2, a3⟩
    obtain ⟨M1, A, A1, A2⟩ := F_wid (d + 2) len ν hR (i := loF ln b n) (lo := loB ln n b (x : Int) (y : Int)) (hi := hiB ln n b (x : Int) (y : Int)) hn hl (by omega) (by omega)
    have hD1 := dbd_c hD A2.1
    obtain ⟨M2, B, B1, B2⟩ := F_wmk (d + 1) len ν h hn hD1 hb hbb A1 0 (x := (x : Int)) (y := (y : Int)) (by omega) (by omega)
    have hD2 := dbd_c hD1 B2.1
    obtain ⟨M3, C, C1, C2⟩ := F_wmk (d + 1) len ν h hn hD2 hb hbb B1 1 (x := (x : Int)) (y := (y : Int)) (by omega) (by omega)
    have m01 := ((hD1.2.2.2 b hb hbb).2.2.2.2.2 0 (by decide)).1
    have m11 := ((hD2.2.2.2 b hb hbb).2.2.2.2.2 1 (by decide)).1
    rw [Nat.add_zero] at m01
    clear hl
    refine ⟨M3, zU, .int (zi (loB ln n b (x : Int) (y : Int))), .int (zi (hiB ln n b (x : Int) (y : Int))), v10', P.trans ?_, C1, frB_tr A2 (frB_tr B2 C2)⟩
    · rw [B_X1_solve_103]
      simp (disch := omega) only [e22, A, B_X1_solve_137, i0, m01, B, B_X1_solve_152, i1, m11, C, B_X1_solve_167, zbi_some, zbl_some, zbv_some, zbi_none, zbl_none, zbv_none, zbi_ite, zbl_ite, zbv_ite, zbZ, zbO, zc_lt, zc_le, zc_ge, zc_gt, zc_eq, zk0, zk1, zk2, zk3, zk4, zk5, zk6, zk7, zk8, zk9, zk10, zk11, zk12, zk14, zk15, zk16, zk17, zk19, zk20, zk21, zk24, zk25, zk30, zk32, zk36, zk40, zk45, zk50, zk64, zk97, zk99, zk100, zk102, zk122, zk128, zk255, zk800, zk801, zk900, zk999, zk1000, zk1997, zk9999, zk10000, zk100000, zk99999, zk9999999, zk999999999, zk2147483647, zlc0, zlc1, zlc2, zlc3, zlc4, zlc23, zlc99, zlc100, zlc9999999, zlc999999999999, zlc1073741824, zi_neg, zi_add, zi_sub, zi_mul, zl_neg, zl_add, zl_sub, zl_mul, zi_toInt, zi_nat, zi_le, zi_lt, zi_eq, zl_le, zl_lt, zl_eq, zl_toInt, zl_of32, zi_of64, zi_div, zl_div, zmodI, ↓reduceIte, zTle, zFle, zTlt, zFlt, zTeq, zFeq, if_true, if_false, and_self, and_true, true_and, and_false, false_and, or_self, or_true, true_or, or_false, false_or, not_true_eq_false, not_false_eq_true, zcastA, zcastL, znatC, zab, Int.reduceAdd, Int.reduceSub, Int.reduceMul, Int.reduceNeg, Int.reduceToNat, Nat.reduceAdd]
  · rw [if_neg f]
    refine ⟨M, v5, .int (zi (loB ln n b (x : Int) (y : Int))), .int (zi (hiB ln n b (x : Int) (y : Int))), v10', P.trans ?_, hR, frB_rf ln b M⟩
    rw [B_X1_solve_103]
    simp (disch := omega) only [B_X1_solve_167, zbi_some, zbl_some, zbv_some, zbi_none, zbl_none, zbv_none, zbi_ite, zbl_ite, zbv_ite, zbZ, zbO, zc_lt, zc_le, zc_ge, zc_gt, zc_eq, zk0, zk1, zk2, zk3, zk4, zk5, zk6, zk7, zk8, zk9, zk10, zk11, zk12, zk14, zk15, zk16, zk17, zk19, zk20, zk21, zk24, zk25, zk30, zk32, zk36, zk40, zk45, zk50, zk64, zk97, zk99, zk100, zk102, zk122, zk128, zk255, zk800, zk801, zk900, zk999, zk1000, zk1997, zk9999, zk10000, zk100000, zk99999, zk9999999, zk999999999, zk2147483647, zlc0, zlc1, zlc2, zlc3, zlc4, zlc23, zlc99, zlc100, zlc9999999, zlc999999999999, zlc1073741824, zi_neg, zi_add, zi_sub, zi_mul, zl_neg, zl_add, zl_sub, zl_mul, zi_toInt, zi_nat, zi_le, zi_lt, zi_eq, zl_le, zl_lt, zl_eq, zl_toInt, zl_of32, zi_of64, zi_div, zl_div, zmodI, ↓reduceIte, zTle, zFle, zTlt, zFlt, zTeq, zFeq, if_true, if_false, and_self, and_true, true_and, and_false, false_and, or_self, or_true, true_or, or_false, false_or, not_true_eq_false, not_false_eq_true, zcastA, zcastL, znatC, zab, Int.reduceAdd, Int.reduceSub, Int.reduceMul, Int.reduceNeg, Int.reduceToNat, Nat.reduceAdd]
end SC3

/-! TABLET read: tokens over any memory; a LINE's end, lost -/
def frF (X X' : zMu) : Prop := (∀ r, r ≠ 6 → (r < 11 ∨ 26 < r) → X' r = X r) ∧ ∀ j, j ≠ 6 → j ≠ 7 → j ≠ 8 → X' 6 j = X 6 j
theorem frF_rf (X : zMu) : frF X X := ⟨fun _ _ _ => rfl, fun _ _ _ _ => rfl⟩
theorem frF_tr {X X' X'' : zMu} (h : frF X X') (h2 : frF X' X'') : frF X X'' := ⟨fun r h6 hr => by rw [h2.1 r h6 hr, h.1 r h6 hr], fun j a b c => by rw [h2.2 j a b c, h.2 j a b c]⟩
theorem frF_d {X X' X'' : zMu} (h : frF X X') (h2 : frD X' X'') : frF X X'' := ⟨fun r h6 hr => by rw [h2 r hr, h.1 r h6 hr], fun j a b c => by rw [h2 6 (by omega), h.2 j a b c]⟩
theorem frF_6 {X X' : zMu} {i : Nat} {v : Int32} (h : frF X X') (hi : i = 6 ∨ i = 7 ∨ i = 8) : frF X (zup X' 6 i v) := ⟨fun r h6 hr => by rw [zup_ne _ _ _ h6, h.1 r h6 hr], fun j a b c => by rw [zup_self, upd_ne _ _ (by omega), h.2 j a b c]⟩
def TkX (K : Nat) (pl : Nat → Nat) (ty va : Nat → Int) (M : zMu) (k : Nat) : Prop := CcX K pl ty va M ∧ M 6 5 = zi ((K : Int) + 1) ∧ M 6 6 = zi (k : Int) ∧ M 6 7 = zi 0 ∧ M 6 8 = zi (-1)
section GTOK
variable {g : Nat → Int} {L K : Nat} {pl nn : Nat → Nat} {ty va : Nat → Int}
theorem Tk_d {M M' : zMu} {k : Nat} (h : TkX K pl ty va M k) (f : frD M M') : TkX K pl ty va M' k := by
  obtain ⟨h1, h2, h3⟩ := h
  refine ⟨?_, by rw [f 6 (by omega)]; exact h2, by rw [f 6 (by omega)]; exact h3⟩
  unfold CcX at h1 ⊢
  rw [f 8 (by omega), f 9 (by omega), f 10 (by omega)]
  exact h1
theorem NX_d {sy sn : Nat → Nat} {st : Nat → Nat → Int} {M M' : zMu} (h : NX sy sn st M) (f : frF M M') : NX sy sn st M' := by
  obtain ⟨h1, h2, h3⟩ := h
  refine ⟨fun x hx => ?_, fun x hx => ?_, fun x i hx hi => ?_⟩
  · rw [f.1 5 (by decide) (by omega)]; exact h1 x hx
  · rw [f.1 3 (by decide) (by omega)]; exact h2 x hx
  · rw [f.1 4 (by decide) (by omega)]; exact h3 x i hx hi
theorem g_kind {k : Nat} (hk : k ≤ K) (hK : K ≤ 800) (d len : Nat) {M : zMu} (h : TkX K pl ty va M k) (ν : zNu) : zF zT0 (d + 1) 129 [.ref 6] (zm len M ν) = some (.int (zi (kd ty va k)), zm len M ν) := by
  have e8 : M 8 k = zi (kd ty va k) := (h.1 k (by omega)).1
  have e6 := h.2.2.1
  rw [B_X10_kind]
  simp (disch := omega) only [e6, e8, zbi_some, zbl_some, zbv_some, zbi_none, zbl_none, zbv_none, zbi_ite, zbl_ite, zbv_ite, zbZ, zbO, zc_lt, zc_le, zc_ge, zc_gt, zc_eq, zk0, zk1, zk2, zk3, zk4, zk5, zk6, zk7, zk8, zk9, zk10, zk11, zk12, zk14, zk15, zk16, zk17, zk19, zk20, zk21, zk24, zk25, zk30, zk32, zk36, zk40, zk45, zk50, zk64, zk97, zk99, zk100, zk102, zk122, zk128, zk255, zk800, zk801, zk900, zk999, zk1000, zk1997, zk9999, zk10000, zk100000, zk99999, zk9999999, zk999999999, zk2147483647, zlc0, zlc1, zlc2, zlc3, zlc4, zlc23, zlc99, zlc100, zlc9999999, zlc999999999999, zlc1073741824, zi_neg, zi_add, zi_sub, zi_mul, zl_neg, zl_add, zl_sub, zl_mul, zi_toInt, zi_nat, zi_le, zi_lt, zi_eq, zl_le, zl_lt, zl_eq, zl_toInt, zl_of32, zi_of64, zi_div, zl_div, zmodI, ↓reduceIte, zTle, zFle, zTlt, zFlt, zTeq, zFeq, if_true, if_false, and_self, and_true, true_and, and_false, false_and, or_self, or_true, true_or, or_false, false_or, not_true_eq_false, not_false_eq_true, zcastA, zcastL, znatC, zab, Int.reduceAdd, Int.reduceSub, Int.reduceMul, Int.reduceNeg, Int.reduceToNat, Nat.reduceAdd]
theorem g_val {k : Nat} (hk : k ≤ K) (hK : K ≤ 800) (h2 : 2 ≤ ty k ∧ ty k ≤ 3) (d len : Nat) {M : zMu} (h : TkX K pl ty va M k) (ν : zNu) : zF zT0 (d + 1) 130 [.ref 6] (zm len M ν) = some (.int (zi (va k)), zm len M ν) := by
  have e9 := (h.1 k (by omega)).2.1 h2
  have e6 := h.2.2.1
  rw [B_X10_value]
  simp (disch := omega) only [e6, e9, zbi_some, zbl_some, zbv_some, zbi_none, zbl_none, zbv_none, zbi_ite, zbl_ite, zbv_ite, zbZ, zbO, zc_lt, zc_le, zc_ge, zc_gt, zc_eq, zk0, zk1, zk2, zk3, zk4, zk5, zk6, zk7, zk8, zk9, zk10, zk11, zk12, zk14, zk15, zk16, zk17, zk19, zk20, zk21, zk24, zk25, zk30, zk32, zk36, zk40, zk45, zk50, zk64, zk97, zk99, zk100, zk102, zk122, zk128, zk255, zk800, zk801, zk900, zk999, zk1000, zk1997, zk9999, zk10000, zk100000, zk99999, zk9999999, zk999999999, zk2147483647, zlc0, zlc1, zlc2, zlc3, zlc4, zlc23, zlc99, zlc100, zlc9999999, zlc999999999999, zlc1073741824, zi_neg, zi_add, zi_sub, zi_mul, zl_neg, zl_add, zl_sub, zl_mul, zi_toInt, zi_nat, zi_le, zi_lt, zi_eq, zl_le, zl_lt, zl_eq, zl_toInt, zl_of32, zi_of64, zi_div, zl_div, zmodI, ↓reduceIte, zTle, zFle, zTlt, zFlt, zTeq, zFeq, if_true, if_false, and_self, and_true, true_and, and_false, false_and, or_self, or_true, true_or, or_false, false_or, not_true_eq_false, not_false_eq_true, zcastA, zcastL, znatC, zab, Int.reduceAdd, Int.reduceSub, Int.reduceMul, Int.reduceNeg, Int.reduceToNat, Nat.reduceAdd]
/-- a value, whatever it is -/
theorem g_valx {k : Nat} (hk : k ≤ K) (hK : K ≤ 800) (d len : Nat) {M : zMu} (h : TkX K pl ty va M k) (ν : zNu) : ∃ x : Int32, zF zT0 (d + 1) 130 [.ref 6] (zm len M ν) = some (.int x, zm len M ν) := by
  have e6 := h.2.2.1
  refine ⟨M 9 k, ?_⟩
  rw [B_X10_value]
  simp (disch := omega) only [e6, zbi_some, zbl_some, zbv_some, zbi_none, zbl_none, zbv_none, zbi_ite, zbl_ite, zbv_ite, zbZ, zbO, zc_lt, zc_le, zc_ge, zc_gt, zc_eq, zk0, zk1, zk2, zk3, zk4, zk5, zk6, zk7, zk8, zk9, zk10, zk11, zk12, zk14, zk15, zk16, zk17, zk19, zk20, zk21, zk24, zk25, zk30, zk32, zk36, zk40, zk45, zk50, zk64, zk97, zk99, zk100, zk102, zk122, zk128, zk255, zk800, zk801, zk900, zk999, zk1000, zk1997, zk9999, zk10000, zk100000, zk99999, zk9999999, zk999999999, zk2147483647, zlc0, zlc1, zlc2, zlc3, zlc4, zlc23, zlc99, zlc100, zlc9999999, zlc999999999999, zlc1073741824, zi_neg, zi_add, zi_sub, zi_mul, zl_neg, zl_add, zl_sub, zl_mul, zi_toInt, zi_nat, zi_le, zi_lt, zi_eq, zl_le, zl_lt, zl_eq, zl_toInt, zl_of32, zi_of64, zi_div, zl_div, zmodI, ↓reduceIte, zTle, zFle, zTlt, zFlt, zTeq, zFeq, if_true, if_false, and_self, and_true, true_and, and_false, false_and, or_self, or_true, true_or, or_false, false_or, not_true_eq_false, not_false_eq_true, zcastA, zcastL, znatC, zab, Int.reduceAdd, Int.reduceSub, Int.reduceMul, Int.reduceNeg, Int.reduceToNat, Nat.reduceAdd]
theorem g_move {k : Nat} (hk : k < K) (hK : K ≤ 800) (d len : Nat) {M : zMu} (h : TkX K pl ty va M k) (ν : zNu) : zF zT0 (d + 1) 132 [.ref 6] (zm len M ν) = some (.null, zm len (zup M 6 6 (zi ((k : Int) + 1))) ν) ∧ TkX K pl ty va (zup M 6 6 (zi ((k : Int) + 1))) (k + 1) := by
  have e5 := h.2.1
  have e6 := h.2.2.1
  refine ⟨?_, h.1, e5, rfl, h.2.2.2⟩
  rw [B_X10_move]
  simp (disch := omega) only [e5, e6, zbi_some, zbl_some, zbv_some, zbi_none, zbl_none, zbv_none, zbi_ite, zbl_ite, zbv_ite, zbZ, zbO, zc_lt, zc_le, zc_ge, zc_gt, zc_eq, zk0, zk1, zk2, zk3, zk4, zk5, zk6, zk7, zk8, zk9, zk10, zk11, zk12, zk14, zk15, zk16, zk17, zk19, zk20, zk21, zk24, zk25, zk30, zk32, zk36, zk40, zk45, zk50, zk64, zk97, zk99, zk100, zk102, zk122, zk128, zk255, zk800, zk801, zk900, zk999, zk1000, zk1997, zk9999, zk10000, zk100000, zk99999, zk9999999, zk999999999, zk2147483647, zlc0, zlc1, zlc2, zlc3, zlc4, zlc23, zlc99, zlc100, zlc9999999, zlc999999999999, zlc1073741824, zi_neg, zi_add, zi_sub, zi_mul, zl_neg, zl_add, zl_sub, zl_mul, zi_toInt, zi_nat, zi_le, zi_lt, zi_eq, zl_le, zl_lt, zl_eq, zl_toInt, zl_of32, zi_of64, zi_div, zl_div, zmodI, ↓reduceIte, zTle, zFle, zTlt, zFlt, zTeq, zFeq, if_true, if_false, and_self, and_true, true_and, and_false, false_and, or_self, or_true, true_or, or_false, false_or, not_true_eq_false, not_false_eq_true, zcastA, zcastL, znatC, zab, Int.reduceAdd, Int.reduceSub, Int.reduceMul, Int.reduceNeg, Int.reduceToNat, Nat.reduceAdd]
theorem g_fail {k : Nat} (hk : k ≤ K) (hK : K ≤ 800) (d len : Nat) {M : zMu} (h : TkX K pl ty va M k) (ν : zNu) (x : Int) : ∃ M', zF zT0 (d + 1) 134 [.ref 6, .int (zi x)] (zm len M ν) = some (.int (zi 0), zm len M' ν) ∧ M' 6 7 = zi x ∧ M' 6 8 = zi (pl k : Int) ∧ frF M M' := by
  have e10 := (h.1 k (by omega)).2.2
  have e6 := h.2.2.1
  refine ⟨zup (zup M 6 7 (zi x)) 6 8 (zi (pl k : Int)), ?_, rfl, rfl, frF_6 (frF_6 (frF_rf M) (by omega)) (by omega)⟩
  rw [B_X10_fail]
  simp (disch := omega) only [e6, e10, zbi_some, zbl_some, zbv_some, zbi_none, zbl_none, zbv_none, zbi_ite, zbl_ite, zbv_ite, zbZ, zbO, zc_lt, zc_le, zc_ge, zc_gt, zc_eq, zk0, zk1, zk2, zk3, zk4, zk5, zk6, zk7, zk8, zk9, zk10, zk11, zk12, zk14, zk15, zk16, zk17, zk19, zk20, zk21, zk24, zk25, zk30, zk32, zk36, zk40, zk45, zk50, zk64, zk97, zk99, zk100, zk102, zk122, zk128, zk255, zk800, zk801, zk900, zk999, zk1000, zk1997, zk9999, zk10000, zk100000, zk99999, zk9999999, zk999999999, zk2147483647, zlc0, zlc1, zlc2, zlc3, zlc4, zlc23, zlc99, zlc100, zlc9999999, zlc999999999999, zlc1073741824, zi_neg, zi_add, zi_sub, zi_mul, zl_neg, zl_add, zl_sub, zl_mul, zi_toInt, zi_nat, zi_le, zi_lt, zi_eq, zl_le, zl_lt, zl_eq, zl_toInt, zl_of32, zi_of64, zi_div, zl_div, zmodI, ↓reduceIte, zTle, zFle, zTlt, zFlt, zTeq, zFeq, if_true, if_false, and_self, and_true, true_and, and_false, false_and, or_self, or_true, true_or, or_false, false_or, not_true_eq_false, not_false_eq_true, zcastA, zcastL, znatC, zab, Int.reduceAdd, Int.reduceSub, Int.reduceMul, Int.reduceNeg, Int.reduceToNat, Nat.reduceAdd]
theorem g_take {k : Nat} {y : Int} (hk : k < K) (hK : K ≤ 800) (hy : kd ty va k = y) (hb : 0 ≤ y ∧ y ≤ 200) (d len : Nat) {M : zMu} (h : TkX K pl ty va M k) (ν : zNu) : zF zT0 (d + 2) 133 [.ref 6, .int (zi y)] (zm len M ν) = some (.int (zi 1), zm len (zup M 6 6 (zi ((k : Int) + 1))) ν) := by
  have e8 : M 8 k = zi (kd ty va k) := (h.1 k (by omega)).1
  have e6 := h.2.2.1
  have T := (g_move hk hK d len h ν).1
  rw [B_X10_take]
  simp (disch := omega) only [e6, e8, hy, T, B_X10_take_23, zbi_some, zbl_some, zbv_some, zbi_none, zbl_none, zbv_none, zbi_ite, zbl_ite, zbv_ite, zbZ, zbO, zc_lt, zc_le, zc_ge, zc_gt, zc_eq, zk0, zk1, zk2, zk3, zk4, zk5, zk6, zk7, zk8, zk9, zk10, zk11, zk12, zk14, zk15, zk16, zk17, zk19, zk20, zk21, zk24, zk25, zk30, zk32, zk36, zk40, zk45, zk50, zk64, zk97, zk99, zk100, zk102, zk122, zk128, zk255, zk800, zk801, zk900, zk999, zk1000, zk1997, zk9999, zk10000, zk100000, zk99999, zk9999999, zk999999999, zk2147483647, zlc0, zlc1, zlc2, zlc3, zlc4, zlc23, zlc99, zlc100, zlc9999999, zlc999999999999, zlc1073741824, zi_neg, zi_add, zi_sub, zi_mul, zl_neg, zl_add, zl_sub, zl_mul, zi_toInt, zi_nat, zi_le, zi_lt, zi_eq, zl_le, zl_lt, zl_eq, zl_toInt, zl_of32, zi_of64, zi_div, zl_div, zmodI, ↓reduceIte, zTle, zFle, zTlt, zFlt, zTeq, zFeq, if_true, if_false, and_self, and_true, true_and, and_false, false_and, or_self, or_true, true_or, or_false, false_or, not_true_eq_false, not_false_eq_true, zcastA, zcastL, znatC, zab, Int.reduceAdd, Int.reduceSub, Int.reduceMul, Int.reduceNeg, Int.reduceToNat, Nat.reduceAdd]
theorem g_taken {k : Nat} {y : Int} (hk : k ≤ K) (hK : K ≤ 800) (hy : kd ty va k ≠ y) (hx : 0 ≤ kd ty va k ∧ kd ty va k ≤ 200) (hb : 0 ≤ y ∧ y ≤ 200) (d len : Nat) {M : zMu} (h : TkX K pl ty va M k) (ν : zNu) : ∃ M', zF zT0 (d + 2) 133 [.ref 6, .int (zi y)] (zm len M ν) = some (.int (zi 0), zm len M' ν) ∧ M' 6 7 = zi 1 ∧ M' 6 8 = zi (pl k : Int) ∧ frF M M' := by
  have e8 : M 8 k = zi (kd ty va k) := (h.1 k (by omega)).1
  have e6 := h.2.2.1
  obtain ⟨M', T, T1⟩ := g_fail hk hK d len h ν 1
  refine ⟨M', ?_, T1⟩
  rw [B_X10_take]
  simp (disch := omega) only [e6, e8, hy, T, B_X10_take_18, zbi_some, zbl_some, zbv_some, zbi_none, zbl_none, zbv_none, zbi_ite, zbl_ite, zbv_ite, zbZ, zbO, zc_lt, zc_le, zc_ge, zc_gt, zc_eq, zk0, zk1, zk2, zk3, zk4, zk5, zk6, zk7, zk8, zk9, zk10, zk11, zk12, zk14, zk15, zk16, zk17, zk19, zk20, zk21, zk24, zk25, zk30, zk32, zk36, zk40, zk45, zk50, zk64, zk97, zk99, zk100, zk102, zk122, zk128, zk255, zk800, zk801, zk900, zk999, zk1000, zk1997, zk9999, zk10000, zk100000, zk99999, zk9999999, zk999999999, zk2147483647, zlc0, zlc1, zlc2, zlc3, zlc4, zlc23, zlc99, zlc100, zlc9999999, zlc999999999999, zlc1073741824, zi_neg, zi_add, zi_sub, zi_mul, zl_neg, zl_add, zl_sub, zl_mul, zi_toInt, zi_nat, zi_le, zi_lt, zi_eq, zl_le, zl_lt, zl_eq, zl_toInt, zl_of32, zi_of64, zi_div, zl_div, zmodI, ↓reduceIte, zTle, zFle, zTlt, zFlt, zTeq, zFeq, if_true, if_false, and_self, and_true, true_and, and_false, false_and, or_self, or_true, true_or, or_false, false_or, not_true_eq_false, not_false_eq_true, zcastA, zcastL, znatC, zab, Int.reduceAdd, Int.reduceSub, Int.reduceMul, Int.reduceNeg, Int.reduceToNat, Nat.reduceAdd]
theorem g_sgb {k : Nat} (hk : k < K) (hK : K ≤ 800) (h3 : kd ty va (k + 1) = 3 → ty (k + 1) = 3) (hx : 0 ≤ kd ty va (k + 1) ∧ kd ty va (k + 1) ≤ 200) (d len : Nat) {M : zMu} (h : TkX K pl ty va M k) (ν : zNu) : zF zT0 (d + 1) 131 [.ref 6] (zm len M ν) = some (.int (zi (if kd ty va (k + 1) = 3 then va (k + 1) else -1)), zm len M ν) := by
  have e5 := h.2.1
  have e6 := h.2.2.1
  have e8 : M 8 (k + 1) = zi (kd ty va (k + 1)) := (h.1 (k + 1) (by omega)).1
  have ix : ((k : Int) + 1).toNat = k + 1 := by omega
  rw [B_X10_signBehind]
  by_cases z : kd ty va (k + 1) = 3
  · have t3 := h3 z
    have e9 := (h.1 (k + 1) (by omega)).2.1 (by omega)
    rw [if_pos z]
    simp (disch := omega) only [e5, e6, ix, e8, e9, z, zbi_some, zbl_some, zbv_some, zbi_none, zbl_none, zbv_none, zbi_ite, zbl_ite, zbv_ite, zbZ, zbO, zc_lt, zc_le, zc_ge, zc_gt, zc_eq, zk0, zk1, zk2, zk3, zk4, zk5, zk6, zk7, zk8, zk9, zk10, zk11, zk12, zk14, zk15, zk16, zk17, zk19, zk20, zk21, zk24, zk25, zk30, zk32, zk36, zk40, zk45, zk50, zk64, zk97, zk99, zk100, zk102, zk122, zk128, zk255, zk800, zk801, zk900, zk999, zk1000, zk1997, zk9999, zk10000, zk100000, zk99999, zk9999999, zk999999999, zk2147483647, zlc0, zlc1, zlc2, zlc3, zlc4, zlc23, zlc99, zlc100, zlc9999999, zlc999999999999, zlc1073741824, zi_neg, zi_add, zi_sub, zi_mul, zl_neg, zl_add, zl_sub, zl_mul, zi_toInt, zi_nat, zi_le, zi_lt, zi_eq, zl_le, zl_lt, zl_eq, zl_toInt, zl_of32, zi_of64, zi_div, zl_div, zmodI, ↓reduceIte, zTle, zFle, zTlt, zFlt, zTeq, zFeq, if_true, if_false, and_self, and_true, true_and, and_false, false_and, or_self, or_true, true_or, or_false, false_or, not_true_eq_false, not_false_eq_true, zcastA, zcastL, znatC, zab, Int.reduceAdd, Int.reduceSub, Int.reduceMul, Int.reduceNeg, Int.reduceToNat, Nat.reduceAdd]
  · rw [if_neg z]
    simp (disch := omega) only [e5, e6, ix, e8, z, zbi_some, zbl_some, zbv_some, zbi_none, zbl_none, zbv_none, zbi_ite, zbl_ite, zbv_ite, zbZ, zbO, zc_lt, zc_le, zc_ge, zc_gt, zc_eq, zk0, zk1, zk2, zk3, zk4, zk5, zk6, zk7, zk8, zk9, zk10, zk11, zk12, zk14, zk15, zk16, zk17, zk19, zk20, zk21, zk24, zk25, zk30, zk32, zk36, zk40, zk45, zk50, zk64, zk97, zk99, zk100, zk102, zk122, zk128, zk255, zk800, zk801, zk900, zk999, zk1000, zk1997, zk9999, zk10000, zk100000, zk99999, zk9999999, zk999999999, zk2147483647, zlc0, zlc1, zlc2, zlc3, zlc4, zlc23, zlc99, zlc100, zlc9999999, zlc999999999999, zlc1073741824, zi_neg, zi_add, zi_sub, zi_mul, zl_neg, zl_add, zl_sub, zl_mul, zi_toInt, zi_nat, zi_le, zi_lt, zi_eq, zl_le, zl_lt, zl_eq, zl_toInt, zl_of32, zi_of64, zi_div, zl_div, zmodI, ↓reduceIte, zTle, zFle, zTlt, zFlt, zTeq, zFeq, if_true, if_false, and_self, and_true, true_and, and_false, false_and, or_self, or_true, true_or, or_false, false_or, not_true_eq_false, not_false_eq_true, zcastA, zcastL, znatC, zab, Int.reduceAdd, Int.reduceSub, Int.reduceMul, Int.reduceNeg, Int.reduceToNat, Nat.reduceAdd]
theorem ty_3 (S : Strm g L K pl nn ty va) {k : Nat} (hk : k < K) (h : kd ty va k = 3) : ty k = 3 := by
  obtain ⟨_, _, _, _, t, _⟩ := S.1 k hk
  unfold Tok mk at t
  unfold kd ck at h
  rcases t with t | ⟨t, _⟩ | ⟨t, _⟩ | ⟨t, t1⟩ | ⟨t, t1⟩
  · rw [t, if_neg (by decide), if_neg (by decide), if_neg (by decide), if_neg (by decide)] at h; exact absurd h (by decide)
  · rw [t, if_pos (by decide)] at h; exact absurd h (by decide)
  · exact t
  · rw [t, if_neg (by decide), if_neg (by decide), if_pos (by decide)] at h
    split at h <;> omega
  · rw [t, if_neg (by decide), if_neg (by decide), if_neg (by decide), if_pos (by decide)] at h
    omega
end GTOK
/-- a LINE's end -/
theorem end_ok (d len : Nat) (ν : zNu) {M : zMu} {ln : Nat → Ln} {n gg : Nat} (hn : n < 24) (hg : gg < 8) (eg : (ln n).2.1 = (gg : Int)) (hs : 0 ≤ (ln n).1 ∧ (ln n).1 ≤ 2) (h : DMd M ln n) : ∃ X', zF zT0 (d + 2) 15 [.ref 11] (zm len M ν) = some (.null, zm len X' ν) ∧ DBd X' ln (n + 1) ∧ frD M X' := by
  obtain ⟨h1, h2, h3, h4⟩ := h
  obtain ⟨b, hb⟩ : ∃ b, b = bkF ln n := ⟨_, rfl⟩
  have bl := bkF_le ln n
  have bb := (bkF_b ln n).1
  rw [← hb] at bl bb
  obtain ⟨l1, l2, l3, l4⟩ := h2 n (Nat.le_refl _)
  rw [← hb] at l4
  rw [eg] at l2
  obtain ⟨k1, k2, k3, k4⟩ := h4 b bl bb
  have SG : zF zT0 (d + 1) 16 [.ref 11, .int (zi (n : Int)), .int (zi (ln n).2.2.2.1)] (zm len M ν) = some (.int (zi (sgF (ln n).1 (ln n).2.2.2.1)), zm len M ν) := by
    unfold sgF
    rw [B_X1_signed]
    by_cases z : (ln n).1 = 0
    · rw [if_pos z]
      simp (disch := omega) only [l1, z, zbi_some, zbl_some, zbv_some, zbi_none, zbl_none, zbv_none, zbi_ite, zbl_ite, zbv_ite, zbZ, zbO, zc_lt, zc_le, zc_ge, zc_gt, zc_eq, zk0, zk1, zk2, zk3, zk4, zk5, zk6, zk7, zk8, zk9, zk10, zk11, zk12, zk14, zk15, zk16, zk17, zk19, zk20, zk21, zk24, zk25, zk30, zk32, zk36, zk40, zk45, zk50, zk64, zk97, zk99, zk100, zk102, zk122, zk128, zk255, zk800, zk801, zk900, zk999, zk1000, zk1997, zk9999, zk10000, zk100000, zk99999, zk9999999, zk999999999, zk2147483647, zlc0, zlc1, zlc2, zlc3, zlc4, zlc23, zlc99, zlc100, zlc9999999, zlc999999999999, zlc1073741824, zi_neg, zi_add, zi_sub, zi_mul, zl_neg, zl_add, zl_sub, zl_mul, zi_toInt, zi_nat, zi_le, zi_lt, zi_eq, zl_le, zl_lt, zl_eq, zl_toInt, zl_of32, zi_of64, zi_div, zl_div, zmodI, ↓reduceIte, zTle, zFle, zTlt, zFlt, zTeq, zFeq, if_true, if_false, and_self, and_true, true_and, and_false, false_and, or_self, or_true, true_or, or_false, false_or, not_true_eq_false, not_false_eq_true, zcastA, zcastL, znatC, zab, Int.reduceAdd, Int.reduceSub, Int.reduceMul, Int.reduceNeg, Int.reduceToNat, Nat.reduceAdd]
    · rw [if_neg z]
      simp (disch := omega) only [l1, z, zbi_some, zbl_some, zbv_some, zbi_none, zbl_none, zbv_none, zbi_ite, zbl_ite, zbv_ite, zbZ, zbO, zc_lt, zc_le, zc_ge, zc_gt, zc_eq, zk0, zk1, zk2, zk3, zk4, zk5, zk6, zk7, zk8, zk9, zk10, zk11, zk12, zk14, zk15, zk16, zk17, zk19, zk20, zk21, zk24, zk25, zk30, zk32, zk36, zk40, zk45, zk50, zk64, zk97, zk99, zk100, zk102, zk122, zk128, zk255, zk800, zk801, zk900, zk999, zk1000, zk1997, zk9999, zk10000, zk100000, zk99999, zk9999999, zk999999999, zk2147483647, zlc0, zlc1, zlc2, zlc3, zlc4, zlc23, zlc99, zlc100, zlc9999999, zlc999999999999, zlc1073741824, zi_neg, zi_add, zi_sub, zi_mul, zl_neg, zl_add, zl_sub, zl_mul, zi_toInt, zi_nat, zi_le, zi_lt, zi_eq, zl_le, zl_lt, zl_eq, zl_toInt, zl_of32, zi_of64, zi_div, zl_div, zmodI, ↓reduceIte, zTle, zFle, zTlt, zFlt, zTeq, zFeq, if_true, if_false, and_self, and_true, true_and, and_false, false_and, or_self, or_true, true_or, or_false, false_or, not_true_eq_false, not_false_eq_true, zcastA, zcastL, znatC, zab, Int.reduceAdd, Int.reduceSub, Int.reduceMul, Int.reduceNeg, Int.reduceToNat, Nat.reduceAdd]
  have zm1 : (-1 : Int32) = zi (-1) := rfl
  have z1 : znar 3 (zi 1) = zi 1 := rfl
  have e20 : ∀ v, (zup M 20 b v) 11 = M 11 := fun v => zup_ne _ _ _ (by decide)
  have common : ∀ X' : zMu, X' 11 2 = zi ((n : Int) + 1) → (∀ i, X' 12 i = M 12 i ∧ X' 13 i = M 13 i ∧ X' 14 i = M 14 i ∧ X' 17 i = M 17 i) → (∀ g : Nat, g < 8 → X' 18 g = zi (obF ln (n + 1) (g : Int))) → (∀ x, x ≠ b → X' 19 x = M 19 x ∧ X' 20 x = M 20 x) → X' 19 b = zi (clF ln b (n + 1)) → X' 20 b = zi (toF ln b (n + 1)) → X' 22 = M 22 → X' 23 = M 23 → X' 24 = M 24 → X' 25 = M 25 → X' 26 = M 26 → DBd X' ln (n + 1) := fun X' x1 x2 x3 x4 x5 x6 x7 x8 x9 x10 x11 => by
    refine ⟨by rw [x1]; rfl, fun i hi => ?_, x3, fun c hc hcb => ?_⟩
    · obtain ⟨a1, a2, a3, a4⟩ := x2 i
      unfold Dlin
      rw [a1, a2, a3, a4]
      exact h2 i (by omega)
    · obtain ⟨c1, c2, c3, c4⟩ := h4 c (by omega) hcb
      have c4' := Mrow_c (X' := X') c4 (by rw [x8]) (fun j _ => by rw [x9, x10, x11]; exact ⟨rfl, rfl, rfl⟩)
      by_cases z : c = b
      · subst z
        exact ⟨x5, x6, by rw [x7]; exact c3, c4'⟩
      · obtain ⟨y1, y2⟩ := x4 c z
        refine ⟨?_, ?_, by rw [x7]; exact c3, c4'⟩
        · rw [y1, clF_S, if_neg (fun q => z (by rw [hb]; exact q.1.symm))]
          exact c1
        · rw [y2, toF_S, if_neg (fun q => z (by rw [hb]; exact q.symm))]
          exact c2
  have t1 : toF ln b (n + 1) = toF ln b n + sgF (ln n).1 (ln n).2.2.2.1 := by rw [toF_S, if_pos hb.symm]
  by_cases s2 : (ln n).1 = 2
  · have c1 : clF ln b (n + 1) = 1 := by rw [clF_S, if_pos ⟨hb.symm, s2⟩]
    refine ⟨zup (zup (zup (zup M 20 b (zi (toF ln b (n + 1)))) 19 b (zi 1)) 18 gg (zi (-1))) 11 2 (zi ((n : Int) + 1)), ?_, common _ ?_ (fun i => ⟨?_, ?_, ?_, ?_⟩) (fun g hg' => ?_) (fun x hx => ⟨?_, ?_⟩) ?_ ?_ ?_ ?_ ?_ ?_ ?_, frD_up (frD_up (frD_up (frD_up (frD_rf M) (by omega)) (by omega)) (by omega)) (by omega)⟩
    · rw [B_X1_endLine, t1]
      simp (disch := omega) only [h1, l3, l4, SG, B_X1_endLine_34, l1, l2, s2, k2, zm1, z1, zbi_some, zbl_some, zbv_some, zbi_none, zbl_none, zbv_none, zbi_ite, zbl_ite, zbv_ite, zbZ, zbO, zc_lt, zc_le, zc_ge, zc_gt, zc_eq, zk0, zk1, zk2, zk3, zk4, zk5, zk6, zk7, zk8, zk9, zk10, zk11, zk12, zk14, zk15, zk16, zk17, zk19, zk20, zk21, zk24, zk25, zk30, zk32, zk36, zk40, zk45, zk50, zk64, zk97, zk99, zk100, zk102, zk122, zk128, zk255, zk800, zk801, zk900, zk999, zk1000, zk1997, zk9999, zk10000, zk100000, zk99999, zk9999999, zk999999999, zk2147483647, zlc0, zlc1, zlc2, zlc3, zlc4, zlc23, zlc99, zlc100, zlc9999999, zlc999999999999, zlc1073741824, zi_neg, zi_add, zi_sub, zi_mul, zl_neg, zl_add, zl_sub, zl_mul, zi_toInt, zi_nat, zi_le, zi_lt, zi_eq, zl_le, zl_lt, zl_eq, zl_toInt, zl_of32, zi_of64, zi_div, zl_div, zmodI, ↓reduceIte, zTle, zFle, zTlt, zFlt, zTeq, zFeq, if_true, if_false, and_self, and_true, true_and, and_false, false_and, or_self, or_true, true_or, or_false, false_or, not_true_eq_false, not_false_eq_true, zcastA, zcastL, znatC, zab, Int.reduceAdd, Int.reduceSub, Int.reduceMul, Int.reduceNeg, Int.reduceToNat, Nat.reduceAdd]
      rw [B_X1_endLine_71]
      have e11 : (zup (zup (zup M 20 b (zi (toF ln b n + sgF (ln n).1 (ln n).2.2.2.1))) 19 b (zi 1)) 18 gg (zi (-1))) 11 2 = zi (n : Int) := h1
      rw [s2] at e11
      simp (disch := omega) only [e11, zbi_some, zbl_some, zbv_some, zbi_none, zbl_none, zbv_none, zbi_ite, zbl_ite, zbv_ite, zbZ, zbO, zc_lt, zc_le, zc_ge, zc_gt, zc_eq, zk0, zk1, zk2, zk3, zk4, zk5, zk6, zk7, zk8, zk9, zk10, zk11, zk12, zk14, zk15, zk16, zk17, zk19, zk20, zk21, zk24, zk25, zk30, zk32, zk36, zk40, zk45, zk50, zk64, zk97, zk99, zk100, zk102, zk122, zk128, zk255, zk800, zk801, zk900, zk999, zk1000, zk1997, zk9999, zk10000, zk100000, zk99999, zk9999999, zk999999999, zk2147483647, zlc0, zlc1, zlc2, zlc3, zlc4, zlc23, zlc99, zlc100, zlc9999999, zlc999999999999, zlc1073741824, zi_neg, zi_add, zi_sub, zi_mul, zl_neg, zl_add, zl_sub, zl_mul, zi_toInt, zi_nat, zi_le, zi_lt, zi_eq, zl_le, zl_lt, zl_eq, zl_toInt, zl_of32, zi_of64, zi_div, zl_div, zmodI, ↓reduceIte, zTle, zFle, zTlt, zFlt, zTeq, zFeq, if_true, if_false, and_self, and_true, true_and, and_false, false_and, or_self, or_true, true_or, or_false, false_or, not_true_eq_false, not_false_eq_true, zcastA, zcastL, znatC, zab, Int.reduceAdd, Int.reduceSub, Int.reduceMul, Int.reduceNeg, Int.reduceToNat, Nat.reduceAdd]
    · simp (disch := omega) only [zup_at, upd_eq, upd_ne, ne_eq, Nat.reduceEqDiff, ↓reduceIte, if_true, if_false]
    · simp (disch := omega) only [zup_at, upd_eq, upd_ne, ne_eq, Nat.reduceEqDiff, ↓reduceIte, if_true, if_false]
    · simp (disch := omega) only [zup_at, upd_eq, upd_ne, ne_eq, Nat.reduceEqDiff, ↓reduceIte, if_true, if_false]
    · simp (disch := omega) only [zup_at, upd_eq, upd_ne, ne_eq, Nat.reduceEqDiff, ↓reduceIte, if_true, if_false]
    · simp (disch := omega) only [zup_at, upd_eq, upd_ne, ne_eq, Nat.reduceEqDiff, ↓reduceIte, if_true, if_false]
    · rw [obF_S, eg]
      by_cases z : g = gg
      · subst z
        rw [if_pos rfl, if_pos s2]
        simp (disch := omega) only [zup_at, upd_eq, upd_ne, ne_eq, Nat.reduceEqDiff, ↓reduceIte, if_true, if_false]
      · rw [if_neg (show ¬ (g : Int) = (gg : Int) by omega)]
        have := h3 g hg'
        rw [eg, if_neg (show ¬ (g : Int) = (gg : Int) by omega)] at this
        simp (disch := omega) only [zup_at, upd_eq, upd_ne, ne_eq, Nat.reduceEqDiff, ↓reduceIte, if_true, if_false]
        exact this
    · simp (disch := omega) only [zup_at, upd_eq, upd_ne, ne_eq, Nat.reduceEqDiff, ↓reduceIte, if_true, if_false]
    · simp (disch := omega) only [zup_at, upd_eq, upd_ne, ne_eq, Nat.reduceEqDiff, ↓reduceIte, if_true, if_false]
    · rw [c1]; simp (disch := omega) only [zup_at, upd_eq, upd_ne, ne_eq, Nat.reduceEqDiff, ↓reduceIte, if_true, if_false]
    · simp (disch := omega) only [zup_at, upd_eq, upd_ne, ne_eq, Nat.reduceEqDiff, ↓reduceIte, if_true, if_false]
    · simp (disch := omega) only [zup_at, upd_eq, upd_ne, ne_eq, Nat.reduceEqDiff, ↓reduceIte, if_true, if_false]
    · simp (disch := omega) only [zup_at, upd_eq, upd_ne, ne_eq, Nat.reduceEqDiff, ↓reduceIte, if_true, if_false]
    · simp (disch := omega) only [zup_at, upd_eq, upd_ne, ne_eq, Nat.reduceEqDiff, ↓reduceIte, if_true, if_false]
    · simp (disch := omega) only [zup_at, upd_eq, upd_ne, ne_eq, Nat.reduceEqDiff, ↓reduceIte, if_true, if_false]
    · simp (disch := omega) only [zup_at, upd_eq, upd_ne, ne_eq, Nat.reduceEqDiff, ↓reduceIte, if_true, if_false]
  · have c1 : clF ln b (n + 1) = clF ln b n := by rw [clF_S, if_neg (fun q => s2 q.2)]
    refine ⟨zup (zup M 20 b (zi (toF ln b (n + 1)))) 11 2 (zi ((n : Int) + 1)), ?_, common _ ?_ (fun i => ⟨?_, ?_, ?_, ?_⟩) (fun g hg' => ?_) (fun x hx => ⟨?_, ?_⟩) ?_ ?_ ?_ ?_ ?_ ?_ ?_, frD_up (frD_up (frD_rf M) (by omega)) (by omega)⟩
    · rw [B_X1_endLine, t1]
      simp (disch := omega) only [h1, l3, l4, SG, B_X1_endLine_34, l1, l2, s2, k2, zbi_some, zbl_some, zbv_some, zbi_none, zbl_none, zbv_none, zbi_ite, zbl_ite, zbv_ite, zbZ, zbO, zc_lt, zc_le, zc_ge, zc_gt, zc_eq, zk0, zk1, zk2, zk3, zk4, zk5, zk6, zk7, zk8, zk9, zk10, zk11, zk12, zk14, zk15, zk16, zk17, zk19, zk20, zk21, zk24, zk25, zk30, zk32, zk36, zk40, zk45, zk50, zk64, zk97, zk99, zk100, zk102, zk122, zk128, zk255, zk800, zk801, zk900, zk999, zk1000, zk1997, zk9999, zk10000, zk100000, zk99999, zk9999999, zk999999999, zk2147483647, zlc0, zlc1, zlc2, zlc3, zlc4, zlc23, zlc99, zlc100, zlc9999999, zlc999999999999, zlc1073741824, zi_neg, zi_add, zi_sub, zi_mul, zl_neg, zl_add, zl_sub, zl_mul, zi_toInt, zi_nat, zi_le, zi_lt, zi_eq, zl_le, zl_lt, zl_eq, zl_toInt, zl_of32, zi_of64, zi_div, zl_div, zmodI, ↓reduceIte, zTle, zFle, zTlt, zFlt, zTeq, zFeq, if_true, if_false, and_self, and_true, true_and, and_false, false_and, or_self, or_true, true_or, or_false, false_or, not_true_eq_false, not_false_eq_true, zcastA, zcastL, znatC, zab, Int.reduceAdd, Int.reduceSub, Int.reduceMul, Int.reduceNeg, Int.reduceToNat, Nat.reduceAdd]
      rw [B_X1_endLine_71]
      have e11 : (zup M 20 b (zi (toF ln b n + sgF (ln n).1 (ln n).2.2.2.1))) 11 2 = zi (n : Int) := h1
      simp (disch := omega) only [e11, zbi_some, zbl_some, zbv_some, zbi_none, zbl_none, zbv_none, zbi_ite, zbl_ite, zbv_ite, zbZ, zbO, zc_lt, zc_le, zc_ge, zc_gt, zc_eq, zk0, zk1, zk2, zk3, zk4, zk5, zk6, zk7, zk8, zk9, zk10, zk11, zk12, zk14, zk15, zk16, zk17, zk19, zk20, zk21, zk24, zk25, zk30, zk32, zk36, zk40, zk45, zk50, zk64, zk97, zk99, zk100, zk102, zk122, zk128, zk255, zk800, zk801, zk900, zk999, zk1000, zk1997, zk9999, zk10000, zk100000, zk99999, zk9999999, zk999999999, zk2147483647, zlc0, zlc1, zlc2, zlc3, zlc4, zlc23, zlc99, zlc100, zlc9999999, zlc999999999999, zlc1073741824, zi_neg, zi_add, zi_sub, zi_mul, zl_neg, zl_add, zl_sub, zl_mul, zi_toInt, zi_nat, zi_le, zi_lt, zi_eq, zl_le, zl_lt, zl_eq, zl_toInt, zl_of32, zi_of64, zi_div, zl_div, zmodI, ↓reduceIte, zTle, zFle, zTlt, zFlt, zTeq, zFeq, if_true, if_false, and_self, and_true, true_and, and_false, false_and, or_self, or_true, true_or, or_false, false_or, not_true_eq_false, not_false_eq_true, zcastA, zcastL, znatC, zab, Int.reduceAdd, Int.reduceSub, Int.reduceMul, Int.reduceNeg, Int.reduceToNat, Nat.reduceAdd]
    · simp (disch := omega) only [zup_at, upd_eq, upd_ne, ne_eq, Nat.reduceEqDiff, ↓reduceIte, if_true, if_false]
    · simp (disch := omega) only [zup_at, upd_eq, upd_ne, ne_eq, Nat.reduceEqDiff, ↓reduceIte, if_true, if_false]
    · simp (disch := omega) only [zup_at, upd_eq, upd_ne, ne_eq, Nat.reduceEqDiff, ↓reduceIte, if_true, if_false]
    · simp (disch := omega) only [zup_at, upd_eq, upd_ne, ne_eq, Nat.reduceEqDiff, ↓reduceIte, if_true, if_false]
    · simp (disch := omega) only [zup_at, upd_eq, upd_ne, ne_eq, Nat.reduceEqDiff, ↓reduceIte, if_true, if_false]
    · rw [obF_S, eg]
      have := h3 g hg'
      rw [eg] at this
      by_cases z : g = gg
      · subst z
        rw [if_pos rfl, if_neg s2]
        rw [if_pos rfl] at this
        simp (disch := omega) only [zup_at, upd_eq, upd_ne, ne_eq, Nat.reduceEqDiff, ↓reduceIte, if_true, if_false]
        exact this
      · rw [if_neg (show ¬ (g : Int) = (gg : Int) by omega)]
        rw [if_neg (show ¬ (g : Int) = (gg : Int) by omega)] at this
        simp (disch := omega) only [zup_at, upd_eq, upd_ne, ne_eq, Nat.reduceEqDiff, ↓reduceIte, if_true, if_false]
        exact this
    · simp (disch := omega) only [zup_at, upd_eq, upd_ne, ne_eq, Nat.reduceEqDiff, ↓reduceIte, if_true, if_false]
    · simp (disch := omega) only [zup_at, upd_eq, upd_ne, ne_eq, Nat.reduceEqDiff, ↓reduceIte, if_true, if_false]
    · rw [c1]; simp (disch := omega) only [zup_at, upd_eq, upd_ne, ne_eq, Nat.reduceEqDiff, ↓reduceIte, if_true, if_false]; exact k1
    · simp (disch := omega) only [zup_at, upd_eq, upd_ne, ne_eq, Nat.reduceEqDiff, ↓reduceIte, if_true, if_false]
    · simp (disch := omega) only [zup_at, upd_eq, upd_ne, ne_eq, Nat.reduceEqDiff, ↓reduceIte, if_true, if_false]
    · simp (disch := omega) only [zup_at, upd_eq, upd_ne, ne_eq, Nat.reduceEqDiff, ↓reduceIte, if_true, if_false]
    · simp (disch := omega) only [zup_at, upd_eq, upd_ne, ne_eq, Nat.reduceEqDiff, ↓reduceIte, if_true, if_false]
    · simp (disch := omega) only [zup_at, upd_eq, upd_ne, ne_eq, Nat.reduceEqDiff, ↓reduceIte, if_true, if_false]
    · simp (disch := omega) only [zup_at, upd_eq, upd_ne, ne_eq, Nat.reduceEqDiff, ↓reduceIte, if_true, if_false]

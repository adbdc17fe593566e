/-! TABLET read: the SYSTEMS by numbers -/
def NP (sy sn : Nat → Nat) (st : Nat → Nat → Int) : Prop := (∀ g, g < 8 → sy g < 4) ∧ (∀ s, s < 4 → 2 ≤ sn s ∧ sn s ≤ 6) ∧ (∀ s i, s < 4 → i + 1 < sn s → 2 ≤ st s i ∧ st s i ≤ 60) ∧ ∀ s, s < 4 → zP (st s) (sn s - 1) ≤ 99999
def NX (sy sn : Nat → Nat) (st : Nat → Nat → Int) (X : zMu) : Prop := (∀ g, g < 8 → X 5 g = zi (sy g : Int)) ∧ (∀ s, s < 4 → X 3 s = zi (sn s : Int)) ∧ ∀ s i, s < 4 → i + 1 < sn s → X 4 (6 * s + i) = zi (st s i)
def NY (sy sn : Nat → Nat) (st : Nat → Nat → Int) (Y : zMu) : Prop := (∀ g, g < 8 → Y 95 g = zi (sy g : Int)) ∧ (∀ s, s < 4 → Y 93 s = zi (sn s : Int)) ∧ ∀ s i, s < 4 → i + 1 < sn s → Y 94 (5 * s + i) = zi (st s i)
theorem num_n {μ : zMu} (h : RnumM μ) : ∃ (sy sn : Nat → Nat) (st : Nat → Nat → Int), NP sy sn st ∧ NX sy sn st μ ∧ NY sy sn st μ := by
  obtain ⟨h1, h2, h3, h4, h5, h6⟩ := h
  have c5 : ∀ g, (((μ 5 g).toInt.toNat : Nat) : Int) = (μ 5 g).toInt := fun g => by have := h3 g; omega
  have c3 : ∀ s, s < 4 → (((μ 3 s).toInt.toNat : Nat) : Int) = (μ 3 s).toInt := fun s hs => by have := h4 s hs; omega
  refine ⟨fun g => (μ 5 g).toInt.toNat, fun s => (μ 3 s).toInt.toNat, fun s i => (μ 94 (5 * s + i)).toInt, ⟨fun g hg => ?_, fun s hs => ?_, fun s i hs hi => ?_, h6⟩, ⟨fun g hg => ?_, fun s hs => ?_, fun s i hs hi => ?_⟩, ⟨fun g hg => ?_, fun s hs => ?_, fun s i hs hi => ?_⟩⟩
  · have := h3 g
    show (μ 5 g).toInt.toNat < 4
    omega
  · have := h4 s hs
    show 2 ≤ (μ 3 s).toInt.toNat ∧ (μ 3 s).toInt.toNat ≤ 6
    omega
  · have hi : i + 1 < (μ 3 s).toInt.toNat := hi
    have e := h5 s i hs (by have := c3 s hs; omega)
    show 2 ≤ (μ 94 (5 * s + i)).toInt ∧ (μ 94 (5 * s + i)).toInt ≤ 60
    rw [← e.1]
    exact e.2
  · show μ 5 g = zi (((μ 5 g).toInt.toNat : Nat) : Int)
    rw [c5]
    exact (zi_of _).symm
  · show μ 3 s = zi (((μ 3 s).toInt.toNat : Nat) : Int)
    rw [c3 s hs]
    exact (zi_of _).symm
  · have hi : i + 1 < (μ 3 s).toInt.toNat := hi
    have e := h5 s i hs (by have := c3 s hs; omega)
    show μ 4 (6 * s + i) = zi (μ 94 (5 * s + i)).toInt
    rw [e.1]
    exact (zi_of _).symm
  · show μ 95 g = zi (((μ 5 g).toInt.toNat : Nat) : Int)
    rw [c5, ← h2]
    exact (zi_of _).symm
  · show μ 93 s = zi (((μ 3 s).toInt.toNat : Nat) : Int)
    rw [c3 s hs, ← h1]
    exact (zi_of _).symm
  · exact (zi_of _).symm
def moF (sn : Nat → Nat) (st : Nat → Nat → Int) (s i : Nat) : Int := if i + 1 = sn s then 99 else st s i - 1
section NUMS
variable {sy sn : Nat → Nat} {st : Nat → Nat → Int}
theorem wo_r (h : NP sy sn st) {s i : Nat} (hs : s < 4) (hi : i < sn s) : 1 ≤ zP (st s) i ∧ zP (st s) i ≤ 99999 := by
  obtain ⟨_, _, h3, h4⟩ := h
  refine ⟨zP_pos (fun j hj => by have := h3 s j hs (by omega); omega), ?_⟩
  have := zP_mono (g := st s) (m := i) (n := sn s - 1) (fun j hj => by have := h3 s j hs (by omega); omega) (by omega)
  have := h4 s hs
  omega
theorem mo_r (h : NP sy sn st) {s i : Nat} (hs : s < 4) (hi : i < sn s) : 1 ≤ moF sn st s i ∧ moF sn st s i ≤ 99 := by
  unfold moF
  by_cases z : i + 1 = sn s
  · rw [if_pos z]
    omega
  · rw [if_neg z]
    have := h.2.2.1 s i hs (by omega)
    omega
theorem has_y (h : NP sy sn st) (d len : Nat) {X : zMu} (hX : NX sy sn st X) (ν : zNu) {s i : Nat} (hs : s < 4) (hi : i < sn s) : zF zT0 (d + 1) 68 [.ref 2, .int (zi (s : Int)), .int (zi (i : Int))] (zm len X ν) = some (.int (zi 1), zm len X ν) := by
  have e := hX.2.1 s hs
  have b := h.2.1 s hs
  rw [B_X5_hasSign]
  simp (disch := omega) only [e, zbi_some, zbl_some, zbv_some, zbi_none, zbl_none, zbv_none, zbi_ite, zbl_ite, zbv_ite, zbZ, zbO, zc_lt, zc_le, zc_ge, zc_gt, zc_eq, zk0, zk1, zk2, zk3, zk4, zk5, zk6, zk7, zk8, zk9, zk10, zk11, zk12, zk14, zk15, zk16, zk17, zk19, zk20, zk21, zk24, zk25, zk30, zk32, zk36, zk40, zk45, zk50, zk64, zk97, zk99, zk100, zk102, zk122, zk128, zk255, zk800, zk801, zk900, zk999, zk1000, zk1997, zk9999, zk10000, zk100000, zk99999, zk9999999, zk999999999, zk2147483647, zlc0, zlc1, zlc2, zlc3, zlc4, zlc23, zlc99, zlc100, zlc9999999, zlc999999999999, zlc1073741824, zi_neg, zi_add, zi_sub, zi_mul, zl_neg, zl_add, zl_sub, zl_mul, zi_toInt, zi_nat, zi_le, zi_lt, zi_eq, zl_le, zl_lt, zl_eq, zl_toInt, zl_of32, zi_of64, zi_div, zl_div, zmodI, ↓reduceIte, zTle, zFle, zTlt, zFlt, zTeq, zFeq, if_true, if_false, and_self, and_true, true_and, and_false, false_and, or_self, or_true, true_or, or_false, false_or, not_true_eq_false, not_false_eq_true, zcastA, zcastL, znatC, zab, Int.reduceAdd, Int.reduceSub, Int.reduceMul, Int.reduceNeg, Int.reduceToNat, Nat.reduceAdd]
theorem has_n (h : NP sy sn st) (d len : Nat) {X : zMu} (hX : NX sy sn st X) (ν : zNu) {s : Nat} {i : Int} (hs : s < 4) (hi : i < 0 ∨ (sn s : Int) ≤ i) (hb : -5 ≤ i ∧ i ≤ 100) : zF zT0 (d + 1) 68 [.ref 2, .int (zi (s : Int)), .int (zi i)] (zm len X ν) = some (.int (zi 0), zm len X ν) := by
  have e := hX.2.1 s hs
  have b := h.2.1 s hs
  rw [B_X5_hasSign]
  by_cases z : i < 0
  · simp (disch := omega) only [z, zbi_some, zbl_some, zbv_some, zbi_none, zbl_none, zbv_none, zbi_ite, zbl_ite, zbv_ite, zbZ, zbO, zc_lt, zc_le, zc_ge, zc_gt, zc_eq, zk0, zk1, zk2, zk3, zk4, zk5, zk6, zk7, zk8, zk9, zk10, zk11, zk12, zk14, zk15, zk16, zk17, zk19, zk20, zk21, zk24, zk25, zk30, zk32, zk36, zk40, zk45, zk50, zk64, zk97, zk99, zk100, zk102, zk122, zk128, zk255, zk800, zk801, zk900, zk999, zk1000, zk1997, zk9999, zk10000, zk100000, zk99999, zk9999999, zk999999999, zk2147483647, zlc0, zlc1, zlc2, zlc3, zlc4, zlc23, zlc99, zlc100, zlc9999999, zlc999999999999, zlc1073741824, zi_neg, zi_add, zi_sub, zi_mul, zl_neg, zl_add, zl_sub, zl_mul, zi_toInt, zi_nat, zi_le, zi_lt, zi_eq, zl_le, zl_lt, zl_eq, zl_toInt, zl_of32, zi_of64, zi_div, zl_div, zmodI, ↓reduceIte, zTle, zFle, zTlt, zFlt, zTeq, zFeq, if_true, if_false, and_self, and_true, true_and, and_false, false_and, or_self, or_true, true_or, or_false, false_or, not_true_eq_false, not_false_eq_true, zcastA, zcastL, znatC, zab, Int.reduceAdd, Int.reduceSub, Int.reduceMul, Int.reduceNeg, Int.reduceToNat, Nat.reduceAdd]
  · simp (disch := omega) only [e, zbi_some, zbl_some, zbv_some, zbi_none, zbl_none, zbv_none, zbi_ite, zbl_ite, zbv_ite, zbZ, zbO, zc_lt, zc_le, zc_ge, zc_gt, zc_eq, zk0, zk1, zk2, zk3, zk4, zk5, zk6, zk7, zk8, zk9, zk10, zk11, zk12, zk14, zk15, zk16, zk17, zk19, zk20, zk21, zk24, zk25, zk30, zk32, zk36, zk40, zk45, zk50, zk64, zk97, zk99, zk100, zk102, zk122, zk128, zk255, zk800, zk801, zk900, zk999, zk1000, zk1997, zk9999, zk10000, zk100000, zk99999, zk9999999, zk999999999, zk2147483647, zlc0, zlc1, zlc2, zlc3, zlc4, zlc23, zlc99, zlc100, zlc9999999, zlc999999999999, zlc1073741824, zi_neg, zi_add, zi_sub, zi_mul, zl_neg, zl_add, zl_sub, zl_mul, zi_toInt, zi_nat, zi_le, zi_lt, zi_eq, zl_le, zl_lt, zl_eq, zl_toInt, zl_of32, zi_of64, zi_div, zl_div, zmodI, ↓reduceIte, zTle, zFle, zTlt, zFlt, zTeq, zFeq, if_true, if_false, and_self, and_true, true_and, and_false, false_and, or_self, or_true, true_or, or_false, false_or, not_true_eq_false, not_false_eq_true, zcastA, zcastL, znatC, zab, Int.reduceAdd, Int.reduceSub, Int.reduceMul, Int.reduceNeg, Int.reduceToNat, Nat.reduceAdd]
theorem F_worc (h : NP sy sn st) (d len : Nat) {X : zMu} (hX : NX sy sn st X) (ν : zNu) {s i : Nat} (hs : s < 4) (hi : i < sn s) : zF zT0 (d + 2) 69 [.ref 2, .int (zi (s : Int)), .int (zi (i : Int))] (zm len X ν) = some (.int (zi (zP (st s) i)), zm len X ν) := by
  have b := h.2.1 s hs
  have H := has_y h d len hX ν hs hi
  have L := zloop (f := fun j => zE zc_X5_worthOf (zF zT0 (d + 1)) 14 [.ref 2, .int (zi (s : Int)), .int (zi (i : Int)), .int (zi (zP (st s) j)), .int (zi (j : Int))] [] (zm len X ν)) (n := i) (fun j hj => by
    show zE _ _ _ _ _ _ = zE _ _ _ _ _ _
    have e := hX.2.2 s j hs (by omega)
    have ix : ((s : Int) * 6 + (j : Int)).toNat = 6 * s + j := by omega
    rw [B_X5_worthOf_14]
    simp (disch := omega) only [B_X5_slot, B_X5_worthOf_31, ix, e, zbi_some, zbl_some, zbv_some, zbi_none, zbl_none, zbv_none, zbi_ite, zbl_ite, zbv_ite, zbZ, zbO, zc_lt, zc_le, zc_ge, zc_gt, zc_eq, zk0, zk1, zk2, zk3, zk4, zk5, zk6, zk7, zk8, zk9, zk10, zk11, zk12, zk14, zk15, zk16, zk17, zk19, zk20, zk21, zk24, zk25, zk30, zk32, zk36, zk40, zk45, zk50, zk64, zk97, zk99, zk100, zk102, zk122, zk128, zk255, zk800, zk801, zk900, zk999, zk1000, zk1997, zk9999, zk10000, zk100000, zk99999, zk9999999, zk999999999, zk2147483647, zlc0, zlc1, zlc2, zlc3, zlc4, zlc23, zlc99, zlc100, zlc9999999, zlc999999999999, zlc1073741824, zi_neg, zi_add, zi_sub, zi_mul, zl_neg, zl_add, zl_sub, zl_mul, zi_toInt, zi_nat, zi_le, zi_lt, zi_eq, zl_le, zl_lt, zl_eq, zl_toInt, zl_of32, zi_of64, zi_div, zl_div, zmodI, ↓reduceIte, zTle, zFle, zTlt, zFlt, zTeq, zFeq, if_true, if_false, and_self, and_true, true_and, and_false, false_and, or_self, or_true, true_or, or_false, false_or, not_true_eq_false, not_false_eq_true, zcastA, zcastL, znatC, zab, Int.reduceAdd, Int.reduceSub, Int.reduceMul, Int.reduceNeg, Int.reduceToNat, Nat.reduceAdd]
    rfl)
  have L : zE zc_X5_worthOf (zF zT0 (d + 1)) 14 [.ref 2, .int (zi (s : Int)), .int (zi (i : Int)), .int (zi 1), .int (zi 0)] [] (zm len X ν) = zE zc_X5_worthOf (zF zT0 (d + 1)) 14 [.ref 2, .int (zi (s : Int)), .int (zi (i : Int)), .int (zi (zP (st s) i)), .int (zi (i : Int))] [] (zm len X ν) := L
  rw [B_X5_worthOf]
  simp (disch := omega) only [H, B_X5_worthOf_8, zbi_some, zbl_some, zbv_some, zbi_none, zbl_none, zbv_none, zbi_ite, zbl_ite, zbv_ite, zbZ, zbO, zc_lt, zc_le, zc_ge, zc_gt, zc_eq, zk0, zk1, zk2, zk3, zk4, zk5, zk6, zk7, zk8, zk9, zk10, zk11, zk12, zk14, zk15, zk16, zk17, zk19, zk20, zk21, zk24, zk25, zk30, zk32, zk36, zk40, zk45, zk50, zk64, zk97, zk99, zk100, zk102, zk122, zk128, zk255, zk800, zk801, zk900, zk999, zk1000, zk1997, zk9999, zk10000, zk100000, zk99999, zk9999999, zk999999999, zk2147483647, zlc0, zlc1, zlc2, zlc3, zlc4, zlc23, zlc99, zlc100, zlc9999999, zlc999999999999, zlc1073741824, zi_neg, zi_add, zi_sub, zi_mul, zl_neg, zl_add, zl_sub, zl_mul, zi_toInt, zi_nat, zi_le, zi_lt, zi_eq, zl_le, zl_lt, zl_eq, zl_toInt, zl_of32, zi_of64, zi_div, zl_div, zmodI, ↓reduceIte, zTle, zFle, zTlt, zFlt, zTeq, zFeq, if_true, if_false, and_self, and_true, true_and, and_false, false_and, or_self, or_true, true_or, or_false, false_or, not_true_eq_false, not_false_eq_true, zcastA, zcastL, znatC, zab, Int.reduceAdd, Int.reduceSub, Int.reduceMul, Int.reduceNeg, Int.reduceToNat, Nat.reduceAdd]
  rw [L, B_X5_worthOf_14]
  simp (disch := omega) only [zbi_some, zbl_some, zbv_some, zbi_none, zbl_none, zbv_none, zbi_ite, zbl_ite, zbv_ite, zbZ, zbO, zc_lt, zc_le, zc_ge, zc_gt, zc_eq, zk0, zk1, zk2, zk3, zk4, zk5, zk6, zk7, zk8, zk9, zk10, zk11, zk12, zk14, zk15, zk16, zk17, zk19, zk20, zk21, zk24, zk25, zk30, zk32, zk36, zk40, zk45, zk50, zk64, zk97, zk99, zk100, zk102, zk122, zk128, zk255, zk800, zk801, zk900, zk999, zk1000, zk1997, zk9999, zk10000, zk100000, zk99999, zk9999999, zk999999999, zk2147483647, zlc0, zlc1, zlc2, zlc3, zlc4, zlc23, zlc99, zlc100, zlc9999999, zlc999999999999, zlc1073741824, zi_neg, zi_add, zi_sub, zi_mul, zl_neg, zl_add, zl_sub, zl_mul, zi_toInt, zi_nat, zi_le, zi_lt, zi_eq, zl_le, zl_lt, zl_eq, zl_toInt, zl_of32, zi_of64, zi_div, zl_div, zmodI, ↓reduceIte, zTle, zFle, zTlt, zFlt, zTeq, zFeq, if_true, if_false, and_self, and_true, true_and, and_false, false_and, or_self, or_true, true_or, or_false, false_or, not_true_eq_false, not_false_eq_true, zcastA, zcastL, znatC, zab, Int.reduceAdd, Int.reduceSub, Int.reduceMul, Int.reduceNeg, Int.reduceToNat, Nat.reduceAdd]
theorem F_mosc (h : NP sy sn st) (d len : Nat) {X : zMu} (hX : NX sy sn st X) (ν : zNu) {s i : Nat} (hs : s < 4) (hi : i < sn s) : zF zT0 (d + 2) 70 [.ref 2, .int (zi (s : Int)), .int (zi (i : Int))] (zm len X ν) = some (.int (zi (moF sn st s i)), zm len X ν) := by
  have b := h.2.1 s hs
  have e3 := hX.2.1 s hs
  have H := has_y h d len hX ν hs hi
  unfold moF
  rw [B_X5_mostOf]
  by_cases z : i + 1 = sn s
  · rw [if_pos z]
    simp (disch := omega) only [H, B_X5_mostOf_6, e3, zbi_some, zbl_some, zbv_some, zbi_none, zbl_none, zbv_none, zbi_ite, zbl_ite, zbv_ite, zbZ, zbO, zc_lt, zc_le, zc_ge, zc_gt, zc_eq, zk0, zk1, zk2, zk3, zk4, zk5, zk6, zk7, zk8, zk9, zk10, zk11, zk12, zk14, zk15, zk16, zk17, zk19, zk20, zk21, zk24, zk25, zk30, zk32, zk36, zk40, zk45, zk50, zk64, zk97, zk99, zk100, zk102, zk122, zk128, zk255, zk800, zk801, zk900, zk999, zk1000, zk1997, zk9999, zk10000, zk100000, zk99999, zk9999999, zk999999999, zk2147483647, zlc0, zlc1, zlc2, zlc3, zlc4, zlc23, zlc99, zlc100, zlc9999999, zlc999999999999, zlc1073741824, zi_neg, zi_add, zi_sub, zi_mul, zl_neg, zl_add, zl_sub, zl_mul, zi_toInt, zi_nat, zi_le, zi_lt, zi_eq, zl_le, zl_lt, zl_eq, zl_toInt, zl_of32, zi_of64, zi_div, zl_div, zmodI, ↓reduceIte, zTle, zFle, zTlt, zFlt, zTeq, zFeq, if_true, if_false, and_self, and_true, true_and, and_false, false_and, or_self, or_true, true_or, or_false, false_or, not_true_eq_false, not_false_eq_true, zcastA, zcastL, znatC, zab, Int.reduceAdd, Int.reduceSub, Int.reduceMul, Int.reduceNeg, Int.reduceToNat, Nat.reduceAdd]
  · rw [if_neg z]
    have e := hX.2.2 s i hs (by omega)
    have ix : ((s : Int) * 6 + (i : Int)).toNat = 6 * s + i := by omega
    simp (disch := omega) only [H, B_X5_mostOf_6, e3, B_X5_slot, B_X5_mostOf_30, ix, e, zbi_some, zbl_some, zbv_some, zbi_none, zbl_none, zbv_none, zbi_ite, zbl_ite, zbv_ite, zbZ, zbO, zc_lt, zc_le, zc_ge, zc_gt, zc_eq, zk0, zk1, zk2, zk3, zk4, zk5, zk6, zk7, zk8, zk9, zk10, zk11, zk12, zk14, zk15, zk16, zk17, zk19, zk20, zk21, zk24, zk25, zk30, zk32, zk36, zk40, zk45, zk50, zk64, zk97, zk99, zk100, zk102, zk122, zk128, zk255, zk800, zk801, zk900, zk999, zk1000, zk1997, zk9999, zk10000, zk100000, zk99999, zk9999999, zk999999999, zk2147483647, zlc0, zlc1, zlc2, zlc3, zlc4, zlc23, zlc99, zlc100, zlc9999999, zlc999999999999, zlc1073741824, zi_neg, zi_add, zi_sub, zi_mul, zl_neg, zl_add, zl_sub, zl_mul, zi_toInt, zi_nat, zi_le, zi_lt, zi_eq, zl_le, zl_lt, zl_eq, zl_toInt, zl_of32, zi_of64, zi_div, zl_div, zmodI, ↓reduceIte, zTle, zFle, zTlt, zFlt, zTeq, zFeq, if_true, if_false, and_self, and_true, true_and, and_false, false_and, or_self, or_true, true_or, or_false, false_or, not_true_eq_false, not_false_eq_true, zcastA, zcastL, znatC, zab, Int.reduceAdd, Int.reduceSub, Int.reduceMul, Int.reduceNeg, Int.reduceToNat, Nat.reduceAdd]
theorem F_worm (h : NP sy sn st) (d len : Nat) {Y : zMu} (hY : NY sy sn st Y) (ν : zNu) {s i : Nat} (hs : s < 4) (hi : i < sn s) : zF zT0 (d + 1) 188 [.ref 92, .int (zi (s : Int)), .int (zi (i : Int))] (zm len Y ν) = some (.long (zl (zP (st s) i)), zm len Y ν) := by
  have b := h.2.1 s hs
  have z5 : (5 : Int32) = zi 5 := rfl
  have L : ∀ m j : Nat, j + m = i → ∀ v : Value, zE zc_X12_worthOf (zF zT0 d) 5 [.ref 92, .int (zi (s : Int)), .int (zi (i : Int)), .long (zl (zP (st s) j)), v, .int (zi (j : Int))] [] (zm len Y ν) = some (.long (zl (zP (st s) i)), zm len Y ν) := by
    intro m
    induction m with
    | zero =>
      intro j hj v
      have : j = i := by omega
      subst this
      rw [B_X12_worthOf_5]
      simp (disch := omega) only [zbi_some, zbl_some, zbv_some, zbi_none, zbl_none, zbv_none, zbi_ite, zbl_ite, zbv_ite, zbZ, zbO, zc_lt, zc_le, zc_ge, zc_gt, zc_eq, zk0, zk1, zk2, zk3, zk4, zk5, zk6, zk7, zk8, zk9, zk10, zk11, zk12, zk14, zk15, zk16, zk17, zk19, zk20, zk21, zk24, zk25, zk30, zk32, zk36, zk40, zk45, zk50, zk64, zk97, zk99, zk100, zk102, zk122, zk128, zk255, zk800, zk801, zk900, zk999, zk1000, zk1997, zk9999, zk10000, zk100000, zk99999, zk9999999, zk999999999, zk2147483647, zlc0, zlc1, zlc2, zlc3, zlc4, zlc23, zlc99, zlc100, zlc9999999, zlc999999999999, zlc1073741824, zi_neg, zi_add, zi_sub, zi_mul, zl_neg, zl_add, zl_sub, zl_mul, zi_toInt, zi_nat, zi_le, zi_lt, zi_eq, zl_le, zl_lt, zl_eq, zl_toInt, zl_of32, zi_of64, zi_div, zl_div, zmodI, ↓reduceIte, zTle, zFle, zTlt, zFlt, zTeq, zFeq, if_true, if_false, and_self, and_true, true_and, and_false, false_and, or_self, or_true, true_or, or_false, false_or, not_true_eq_false, not_false_eq_true, zcastA, zcastL, znatC, zab, Int.reduceAdd, Int.reduceSub, Int.reduceMul, Int.reduceNeg, Int.reduceToNat, Nat.reduceAdd]
    | succ m ih =>
      intro j hj v
      have e := hY.2.2 s j hs (by omega)
      have r := h.2.2.1 s j hs (by omega)
      have ix : (5 * (s : Int) + (j : Int)).toNat = 5 * s + j := by omega
      rw [B_X12_worthOf_5]
      simp (disch := omega) only [z5, ix, e, zbi_some, zbl_some, zbv_some, zbi_none, zbl_none, zbv_none, zbi_ite, zbl_ite, zbv_ite, zbZ, zbO, zc_lt, zc_le, zc_ge, zc_gt, zc_eq, zk0, zk1, zk2, zk3, zk4, zk5, zk6, zk7, zk8, zk9, zk10, zk11, zk12, zk14, zk15, zk16, zk17, zk19, zk20, zk21, zk24, zk25, zk30, zk32, zk36, zk40, zk45, zk50, zk64, zk97, zk99, zk100, zk102, zk122, zk128, zk255, zk800, zk801, zk900, zk999, zk1000, zk1997, zk9999, zk10000, zk100000, zk99999, zk9999999, zk999999999, zk2147483647, zlc0, zlc1, zlc2, zlc3, zlc4, zlc23, zlc99, zlc100, zlc9999999, zlc999999999999, zlc1073741824, zi_neg, zi_add, zi_sub, zi_mul, zl_neg, zl_add, zl_sub, zl_mul, zi_toInt, zi_nat, zi_le, zi_lt, zi_eq, zl_le, zl_lt, zl_eq, zl_toInt, zl_of32, zi_of64, zi_div, zl_div, zmodI, ↓reduceIte, zTle, zFle, zTlt, zFlt, zTeq, zFeq, if_true, if_false, and_self, and_true, true_and, and_false, false_and, or_self, or_true, true_or, or_false, false_or, not_true_eq_false, not_false_eq_true, zcastA, zcastL, znatC, zab, Int.reduceAdd, Int.reduceSub, Int.reduceMul, Int.reduceNeg, Int.reduceToNat, Nat.reduceAdd]
      exact ih (j + 1) (by omega) zU
  rw [B_X12_worthOf]
  exact L i 0 (by omega) zU
end NUMS

/-! RINGS: the model's search -/
def nv (U : Nat → Nat) (f o used q : Nat) : Bool := decide (f < q) && (U o).testBit q && !used.testBit q
theorem nv_t {U : Nat → Nat} {f o used q : Nat} : nv U f o used q = true ↔ f < q ∧ (U o).testBit q = true ∧ used.testBit q = false := by
  unfold nv
  simp [and_assoc]
theorem nx_loop (call : zC) (len n : Nat) (ν : zNu) (U : Nat → Nat) (μ : zMu) (f o used : Nat) (x2 : Int32) (hR : Rs n U (μ 126)) (hc : μ 92 52 = zi (n : Int)) (ho : o < n) (hf : f < n) (hr : μ 128 0 = zi (f : Int)) : ∀ (m a : Nat), a + m = n → ∃ r : Int, zE zc_X12_nextOver call 5 [.ref 92, .int (zi (o : Int)), .int x2, .int (zi (used : Int)), .int (zi (a : Int))] [] (zm len μ ν) = some (.int (zi r), zm len μ ν) ∧ ((∃ q : Nat, r = (q : Int) ∧ a ≤ q ∧ q < n ∧ nv U f o used q = true ∧ ∀ j, a ≤ j → j < q → nv U f o used j = false) ∨ (r = -1 ∧ ∀ j, a ≤ j → j < n → nv U f o used j = false)) := by
  have n10 := hR.1
  have u := (hR.2 o).1
  intro m
  induction m with
  | zero =>
    intro a ha
    refine ⟨-1, ?_, Or.inr ⟨rfl, fun j h1 h2 => by omega⟩⟩
    rw [B_X12_nextOver_5]
    simp (disch := omega) only [hc, zbi_some, zbl_some, zbv_some, zbi_none, zbl_none, zbv_none, zbi_ite, zbl_ite, zbv_ite, zbZ, zbO, zc_lt, zc_le, zc_ge, zc_gt, zc_eq, zk0, zk1, zk2, zk3, zk4, zk5, zk6, zk7, zk8, zk9, zk10, zk11, zk12, zk14, zk15, zk16, zk17, zk19, zk20, zk21, zk24, zk25, zk30, zk32, zk36, zk40, zk45, zk50, zk64, zk97, zk99, zk100, zk102, zk122, zk128, zk255, zk800, zk801, zk900, zk999, zk1000, zk1997, zk9999, zk10000, zk100000, zk99999, zk9999999, zk999999999, zk2147483647, zlc0, zlc1, zlc2, zlc3, zlc4, zlc23, zlc99, zlc100, zlc9999999, zlc999999999999, zlc1073741824, zi_neg, zi_add, zi_sub, zi_mul, zl_neg, zl_add, zl_sub, zl_mul, zi_toInt, zi_nat, zi_le, zi_lt, zi_eq, zl_le, zl_lt, zl_eq, zl_toInt, zl_of32, zi_of64, zi_div, zl_div, zmodI, ↓reduceIte, zTle, zFle, zTlt, zFlt, zTeq, zFeq, if_true, if_false, and_self, and_true, true_and, and_false, false_and, or_self, or_true, true_or, or_false, false_or, not_true_eq_false, not_false_eq_true, zcastA, zcastL, znatC, zab, Int.reduceAdd, Int.reduceSub, Int.reduceMul, Int.reduceNeg, Int.reduceToNat, Nat.reduceAdd]
  | succ m ih =>
    intro a ha
    cases q : nv U f o used a with
    | true =>
      obtain ⟨y1, y2, y3⟩ := nv_t.mp q
      refine ⟨(a : Int), ?_, Or.inl ⟨a, rfl, Nat.le_refl a, by omega, q, fun j h1 h2 => by omega⟩⟩
      rw [B_X12_nextOver_5]
      simp (disch := omega) only [hc, hr, u, zb_bit, y2, y3, Bool.false_eq_true, zbi_some, zbl_some, zbv_some, zbi_none, zbl_none, zbv_none, zbi_ite, zbl_ite, zbv_ite, zbZ, zbO, zc_lt, zc_le, zc_ge, zc_gt, zc_eq, zk0, zk1, zk2, zk3, zk4, zk5, zk6, zk7, zk8, zk9, zk10, zk11, zk12, zk14, zk15, zk16, zk17, zk19, zk20, zk21, zk24, zk25, zk30, zk32, zk36, zk40, zk45, zk50, zk64, zk97, zk99, zk100, zk102, zk122, zk128, zk255, zk800, zk801, zk900, zk999, zk1000, zk1997, zk9999, zk10000, zk100000, zk99999, zk9999999, zk999999999, zk2147483647, zlc0, zlc1, zlc2, zlc3, zlc4, zlc23, zlc99, zlc100, zlc9999999, zlc999999999999, zlc1073741824, zi_neg, zi_add, zi_sub, zi_mul, zl_neg, zl_add, zl_sub, zl_mul, zi_toInt, zi_nat, zi_le, zi_lt, zi_eq, zl_le, zl_lt, zl_eq, zl_toInt, zl_of32, zi_of64, zi_div, zl_div, zmodI, ↓reduceIte, zTle, zFle, zTlt, zFlt, zTeq, zFeq, if_true, if_false, and_self, and_true, true_and, and_false, false_and, or_self, or_true, true_or, or_false, false_or, not_true_eq_false, not_false_eq_true, zcastA, zcastL, znatC, zab, Int.reduceAdd, Int.reduceSub, Int.reduceMul, Int.reduceNeg, Int.reduceToNat, Nat.reduceAdd]
    | false =>
      obtain ⟨r, r1, r2⟩ := ih (a + 1) (by omega)
      refine ⟨r, ?_, ?_⟩
      · rw [← r1, B_X12_nextOver_5]
        by_cases y1 : f < a
        · cases y2 : (U o).testBit a with
          | false => simp (disch := omega) only [hc, hr, u, zb_bit, y2, Bool.false_eq_true, B_X12_nextOver_52, zbi_some, zbl_some, zbv_some, zbi_none, zbl_none, zbv_none, zbi_ite, zbl_ite, zbv_ite, zbZ, zbO, zc_lt, zc_le, zc_ge, zc_gt, zc_eq, zk0, zk1, zk2, zk3, zk4, zk5, zk6, zk7, zk8, zk9, zk10, zk11, zk12, zk14, zk15, zk16, zk17, zk19, zk20, zk21, zk24, zk25, zk30, zk32, zk36, zk40, zk45, zk50, zk64, zk97, zk99, zk100, zk102, zk122, zk128, zk255, zk800, zk801, zk900, zk999, zk1000, zk1997, zk9999, zk10000, zk100000, zk99999, zk9999999, zk999999999, zk2147483647, zlc0, zlc1, zlc2, zlc3, zlc4, zlc23, zlc99, zlc100, zlc9999999, zlc999999999999, zlc1073741824, zi_neg, zi_add, zi_sub, zi_mul, zl_neg, zl_add, zl_sub, zl_mul, zi_toInt, zi_nat, zi_le, zi_lt, zi_eq, zl_le, zl_lt, zl_eq, zl_toInt, zl_of32, zi_of64, zi_div, zl_div, zmodI, ↓reduceIte, zTle, zFle, zTlt, zFlt, zTeq, zFeq, if_true, if_false, and_self, and_true, true_and, and_false, false_and, or_self, or_true, true_or, or_false, false_or, not_true_eq_false, not_false_eq_true, zcastA, zcastL, znatC, zab, Int.reduceAdd, Int.reduceSub, Int.reduceMul, Int.reduceNeg, Int.reduceToNat, Nat.reduceAdd]
          | true =>
            have y3 : used.testBit a = true := by
              cases z : used.testBit a with
              | true => rfl
              | false => rw [nv_t.mpr ⟨y1, y2, z⟩] at q; cases q
            simp (disch := omega) only [hc, hr, u, zb_bit, y2, y3, B_X12_nextOver_52, zbi_some, zbl_some, zbv_some, zbi_none, zbl_none, zbv_none, zbi_ite, zbl_ite, zbv_ite, zbZ, zbO, zc_lt, zc_le, zc_ge, zc_gt, zc_eq, zk0, zk1, zk2, zk3, zk4, zk5, zk6, zk7, zk8, zk9, zk10, zk11, zk12, zk14, zk15, zk16, zk17, zk19, zk20, zk21, zk24, zk25, zk30, zk32, zk36, zk40, zk45, zk50, zk64, zk97, zk99, zk100, zk102, zk122, zk128, zk255, zk800, zk801, zk900, zk999, zk1000, zk1997, zk9999, zk10000, zk100000, zk99999, zk9999999, zk999999999, zk2147483647, zlc0, zlc1, zlc2, zlc3, zlc4, zlc23, zlc99, zlc100, zlc9999999, zlc999999999999, zlc1073741824, zi_neg, zi_add, zi_sub, zi_mul, zl_neg, zl_add, zl_sub, zl_mul, zi_toInt, zi_nat, zi_le, zi_lt, zi_eq, zl_le, zl_lt, zl_eq, zl_toInt, zl_of32, zi_of64, zi_div, zl_div, zmodI, ↓reduceIte, zTle, zFle, zTlt, zFlt, zTeq, zFeq, if_true, if_false, and_self, and_true, true_and, and_false, false_and, or_self, or_true, true_or, or_false, false_or, not_true_eq_false, not_false_eq_true, zcastA, zcastL, znatC, zab, Int.reduceAdd, Int.reduceSub, Int.reduceMul, Int.reduceNeg, Int.reduceToNat, Nat.reduceAdd]
        · simp (disch := omega) only [hc, hr, B_X12_nextOver_52, zbi_some, zbl_some, zbv_some, zbi_none, zbl_none, zbv_none, zbi_ite, zbl_ite, zbv_ite, zbZ, zbO, zc_lt, zc_le, zc_ge, zc_gt, zc_eq, zk0, zk1, zk2, zk3, zk4, zk5, zk6, zk7, zk8, zk9, zk10, zk11, zk12, zk14, zk15, zk16, zk17, zk19, zk20, zk21, zk24, zk25, zk30, zk32, zk36, zk40, zk45, zk50, zk64, zk97, zk99, zk100, zk102, zk122, zk128, zk255, zk800, zk801, zk900, zk999, zk1000, zk1997, zk9999, zk10000, zk100000, zk99999, zk9999999, zk999999999, zk2147483647, zlc0, zlc1, zlc2, zlc3, zlc4, zlc23, zlc99, zlc100, zlc9999999, zlc999999999999, zlc1073741824, zi_neg, zi_add, zi_sub, zi_mul, zl_neg, zl_add, zl_sub, zl_mul, zi_toInt, zi_nat, zi_le, zi_lt, zi_eq, zl_le, zl_lt, zl_eq, zl_toInt, zl_of32, zi_of64, zi_div, zl_div, zmodI, ↓reduceIte, zTle, zFle, zTlt, zFlt, zTeq, zFeq, if_true, if_false, and_self, and_true, true_and, and_false, false_and, or_self, or_true, true_or, or_false, false_or, not_true_eq_false, not_false_eq_true, zcastA, zcastL, znatC, zab, Int.reduceAdd, Int.reduceSub, Int.reduceMul, Int.reduceNeg, Int.reduceToNat, Nat.reduceAdd]
      · rcases r2 with ⟨q', a1, a2, a3, a4, a5⟩ | ⟨a1, a2⟩
        · refine Or.inl ⟨q', a1, by omega, a3, a4, fun j h1 h2 => ?_⟩
          by_cases z : j = a
          · rw [z]
            exact q
          · exact a5 j (by omega) h2
        · refine Or.inr ⟨a1, fun j h1 h2 => ?_⟩
          by_cases z : j = a
          · rw [z]
            exact q
          · exact a2 j (by omega) h2
theorem F_nxt (d len n : Nat) (ν : zNu) (U : Nat → Nat) (μ : zMu) (f o used a : Nat) (hR : Rs n U (μ 126)) (hc : μ 92 52 = zi (n : Int)) (ho : o < n) (hf : f < n) (ha : a ≤ n) (hr : μ 128 0 = zi (f : Int)) : ∃ r : Int, zF zT0 (d + 1) 237 [.ref 92, .int (zi (o : Int)), .int (zi ((a : Int) - 1)), .int (zi (used : Int))] (zm len μ ν) = some (.int (zi r), zm len μ ν) ∧ ((∃ q : Nat, r = (q : Int) ∧ a ≤ q ∧ q < n ∧ nv U f o used q = true ∧ ∀ j, a ≤ j → j < q → nv U f o used j = false) ∨ (r = -1 ∧ ∀ j, a ≤ j → j < n → nv U f o used j = false)) := by
  obtain ⟨r, r1, r2⟩ := nx_loop (zF zT0 d) len n ν U μ f o used (zi ((a : Int) - 1)) hR hc ho hf hr (n - a) a (by omega)
  have e : (a : Int) - 1 + 1 = (a : Int) := by omega
  refine ⟨r, ?_, r2⟩
  rw [B_X12_nextOver, ← r1]
  simp (disch := omega) only [e, zbi_some, zbl_some, zbv_some, zbi_none, zbl_none, zbv_none, zbi_ite, zbl_ite, zbv_ite, zbZ, zbO, zc_lt, zc_le, zc_ge, zc_gt, zc_eq, zk0, zk1, zk2, zk3, zk4, zk5, zk6, zk7, zk8, zk9, zk10, zk11, zk12, zk14, zk15, zk16, zk17, zk19, zk20, zk21, zk24, zk25, zk30, zk32, zk36, zk40, zk45, zk50, zk64, zk97, zk99, zk100, zk102, zk122, zk128, zk255, zk800, zk801, zk900, zk999, zk1000, zk1997, zk9999, zk10000, zk100000, zk99999, zk9999999, zk999999999, zk2147483647, zlc0, zlc1, zlc2, zlc3, zlc4, zlc23, zlc99, zlc100, zlc9999999, zlc999999999999, zlc1073741824, zi_neg, zi_add, zi_sub, zi_mul, zl_neg, zl_add, zl_sub, zl_mul, zi_toInt, zi_nat, zi_le, zi_lt, zi_eq, zl_le, zl_lt, zl_eq, zl_toInt, zl_of32, zi_of64, zi_div, zl_div, zmodI, ↓reduceIte, zTle, zFle, zTlt, zFlt, zTeq, zFeq, if_true, if_false, and_self, and_true, true_and, and_false, false_and, or_self, or_true, true_or, or_false, false_or, not_true_eq_false, not_false_eq_true, zcastA, zcastL, znatC, zab, Int.reduceAdd, Int.reduceSub, Int.reduceMul, Int.reduceNeg, Int.reduceToNat, Nat.reduceAdd]
/-- the path v of m, used its mask -/
def Dp (n : Nat) (v : Nat → Nat) (m used : Nat) : Prop := (∀ i, i < m → v i < n) ∧ (∀ x, used.testBit x = true ↔ ∃ i, i < m ∧ v i = x) ∧ (∀ i j, i < m → j < m → v i = v j → i = j) ∧ used < 2 ^ n
theorem Dp_push {n : Nat} {v : Nat → Nat} {m used q : Nat} (h : Dp n v m used) (hq : q < n) (hu : used.testBit q = false) : Dp n (fun i => if i = m then q else v i) (m + 1) (used ||| 2 ^ q) := by
  obtain ⟨h1, h2, h3, h4⟩ := h
  have nq : ∀ i, i < m → v i ≠ q := fun i hi z => by
    rw [(h2 q).mpr ⟨i, hi, z⟩] at hu
    cases hu
  refine ⟨fun i hi => ?_, fun x => ?_, fun i j hi hj e => ?_, or_lt h4 hq⟩
  · show (if i = m then q else v i) < n
    by_cases z : i = m
    · rw [if_pos z]
      exact hq
    · rw [if_neg z]
      exact h1 i (by omega)
  · rw [or_bit]
    constructor
    · intro hx
      by_cases z : q = x
      · exact ⟨m, by omega, by rw [← z]; exact if_pos rfl⟩
      · have hx' : used.testBit x = true := by simpa [z] using hx
        obtain ⟨i, i1, i2⟩ := (h2 x).mp hx'
        exact ⟨i, by omega, by show (if i = m then q else v i) = x; rw [if_neg (by omega)]; exact i2⟩
    · rintro ⟨i, i1, i2⟩
      have i2' : (if i = m then q else v i) = x := i2
      by_cases z : i = m
      · rw [if_pos z] at i2'
        simp [i2']
      · rw [if_neg z] at i2'
        rw [(h2 x).mpr ⟨i, by omega, i2'⟩]
        rfl
  · have e' : (if i = m then q else v i) = if j = m then q else v j := e
    by_cases z : i = m
    · by_cases w : j = m
      · omega
      · rw [if_pos z, if_neg w] at e'
        exact absurd e'.symm (nq j (by omega))
    · by_cases w : j = m
      · rw [if_neg z, if_pos w] at e'
        exact absurd e' (nq i (by omega))
      · rw [if_neg z, if_neg w] at e'
        exact h3 i j (by omega) (by omega) e'
section DFS
variable (d len n : Nat) (ν : zNu) (U : Nat → Nat) (μ : zMu) (f many : Nat)
/-- one step of the search from a path that is not full -/
theorem dfs_push (hR : Rs n U (μ 126)) (hc : μ 92 52 = zi (n : Int)) (hf : f < n) (hm : many ≤ n) (m used a q : Nat) (v : Nat → Nat) (v6 : Value) (h1 : 1 ≤ m) (hmm : m < many) (hD : Dp n v m used) (h0 : μ 128 0 = zi (f : Int)) (hv : μ 128 (m - 1) = zi (v (m - 1) : Int)) (hN : zF zT0 (d + 1) 237 [.ref 92, .int (zi (v (m - 1) : Int)), .int (zi ((a : Int) - 1)), .int (zi (used : Int))] (zm len μ ν) = some (.int (zi (q : Int)), zm len μ ν)) (hq : q < n) (ha : a ≤ n) : zE zc_X12_rings (zF zT0 (d + 1)) 17 [.ref 92, .int (zi (f : Int)), .int (zi (many : Int)), .int (zi (m : Int)), .int (zi (used : Int)), .int (zi ((a : Int) - 1)), v6] [] (zm len μ ν) = zE zc_X12_rings (zF zT0 (d + 1)) 17 [.ref 92, .int (zi (f : Int)), .int (zi (many : Int)), .int (zi ((m + 1 : Nat) : Int)), .int (zi ((used ||| 2 ^ q : Nat) : Int)), .int (zi (((0 : Nat) : Int) - 1)), .int (zi (q : Int))] [] (zm len (zup μ 128 m (zi (q : Int))) ν) := by
  have n10 := hR.1
  have i1 : ((m : Int) - 1).toNat = m - 1 := by omega
  have nm : ¬ ((m : Int) = (many : Int)) := by omega
  rw [B_X12_rings_17]
  simp (disch := omega) only [nm, B_X12_rings_49, i1, hv, hN, B_X12_rings_74, zb_shl, zb_orN, B_X12_rings_132, zbi_some, zbl_some, zbv_some, zbi_none, zbl_none, zbv_none, zbi_ite, zbl_ite, zbv_ite, zbZ, zbO, zc_lt, zc_le, zc_ge, zc_gt, zc_eq, zk0, zk1, zk2, zk3, zk4, zk5, zk6, zk7, zk8, zk9, zk10, zk11, zk12, zk14, zk15, zk16, zk17, zk19, zk20, zk21, zk24, zk25, zk30, zk32, zk36, zk40, zk45, zk50, zk64, zk97, zk99, zk100, zk102, zk122, zk128, zk255, zk800, zk801, zk900, zk999, zk1000, zk1997, zk9999, zk10000, zk100000, zk99999, zk9999999, zk999999999, zk2147483647, zlc0, zlc1, zlc2, zlc3, zlc4, zlc23, zlc99, zlc100, zlc9999999, zlc999999999999, zlc1073741824, zi_neg, zi_add, zi_sub, zi_mul, zl_neg, zl_add, zl_sub, zl_mul, zi_toInt, zi_nat, zi_le, zi_lt, zi_eq, zl_le, zl_lt, zl_eq, zl_toInt, zl_of32, zi_of64, zi_div, zl_div, zmodI, ↓reduceIte, zTle, zFle, zTlt, zFlt, zTeq, zFeq, if_true, if_false, and_self, and_true, true_and, and_false, false_and, or_self, or_true, true_or, or_false, false_or, not_true_eq_false, not_false_eq_true, zcastA, zcastL, znatC, zab, Int.reduceAdd, Int.reduceSub, Int.reduceMul, Int.reduceNeg, Int.reduceToNat, Nat.reduceAdd]
theorem dfs_pop (hR : Rs n U (μ 126)) (hm : many ≤ n) (m used a : Nat) (v : Nat → Nat) (v6 : Value) (h1 : 1 ≤ m) (hmm : m ≤ many) (hD : Dp n v m used) (ha : a ≤ n) (hv : μ 128 (m - 1) = zi (v (m - 1) : Int)) (hN : m < many → zF zT0 (d + 1) 237 [.ref 92, .int (zi (v (m - 1) : Int)), .int (zi ((a : Int) - 1)), .int (zi (used : Int))] (zm len μ ν) = some (.int (zi (-1)), zm len μ ν)) (hl : m = many → (U (v (m - 1))).testBit f = false) (hf : f < n) : zE zc_X12_rings (zF zT0 (d + 1)) 17 [.ref 92, .int (zi (f : Int)), .int (zi (many : Int)), .int (zi (m : Int)), .int (zi (used : Int)), .int (zi ((a : Int) - 1)), v6] [] (zm len μ ν) = zE zc_X12_rings (zF zT0 (d + 1)) 17 [.ref 92, .int (zi (f : Int)), .int (zi (many : Int)), .int (zi ((m : Int) - 1)), .int (zi (sdf used (2 ^ v (m - 1)) : Int)), .int (zi (v (m - 1) : Int)), .int (zi (-1))] [] (zm len μ ν) := by
  have n10 := hR.1
  have i1 : ((m : Int) - 1).toNat = m - 1 := by omega
  have vn := hD.1 (m - 1) (by omega)
  have u := (hR.2 (v (m - 1))).1
  rw [B_X12_rings_17]
  by_cases z : m = many
  · have hl := hl z
    have z' : (m : Int) = (many : Int) := by omega
    simp (disch := omega) only [z', i1, hv, u, zb_bit, hl, Bool.false_eq_true, B_X12_rings_49, B_X12_rings_74, zb_shl, zb_not, B_X12_rings_132, zbi_some, zbl_some, zbv_some, zbi_none, zbl_none, zbv_none, zbi_ite, zbl_ite, zbv_ite, zbZ, zbO, zc_lt, zc_le, zc_ge, zc_gt, zc_eq, zk0, zk1, zk2, zk3, zk4, zk5, zk6, zk7, zk8, zk9, zk10, zk11, zk12, zk14, zk15, zk16, zk17, zk19, zk20, zk21, zk24, zk25, zk30, zk32, zk36, zk40, zk45, zk50, zk64, zk97, zk99, zk100, zk102, zk122, zk128, zk255, zk800, zk801, zk900, zk999, zk1000, zk1997, zk9999, zk10000, zk100000, zk99999, zk9999999, zk999999999, zk2147483647, zlc0, zlc1, zlc2, zlc3, zlc4, zlc23, zlc99, zlc100, zlc9999999, zlc999999999999, zlc1073741824, zi_neg, zi_add, zi_sub, zi_mul, zl_neg, zl_add, zl_sub, zl_mul, zi_toInt, zi_nat, zi_le, zi_lt, zi_eq, zl_le, zl_lt, zl_eq, zl_toInt, zl_of32, zi_of64, zi_div, zl_div, zmodI, ↓reduceIte, zTle, zFle, zTlt, zFlt, zTeq, zFeq, if_true, if_false, and_self, and_true, true_and, and_false, false_and, or_self, or_true, true_or, or_false, false_or, not_true_eq_false, not_false_eq_true, zcastA, zcastL, znatC, zab, Int.reduceAdd, Int.reduceSub, Int.reduceMul, Int.reduceNeg, Int.reduceToNat, Nat.reduceAdd]
    rw [← z']
    simp (disch := omega) only [i1, hv, u, zb_bit, hl, Bool.false_eq_true, B_X12_rings_49, B_X12_rings_74, zb_shl, zb_not, B_X12_rings_132, zbi_some, zbl_some, zbv_some, zbi_none, zbl_none, zbv_none, zbi_ite, zbl_ite, zbv_ite, zbZ, zbO, zc_lt, zc_le, zc_ge, zc_gt, zc_eq, zk0, zk1, zk2, zk3, zk4, zk5, zk6, zk7, zk8, zk9, zk10, zk11, zk12, zk14, zk15, zk16, zk17, zk19, zk20, zk21, zk24, zk25, zk30, zk32, zk36, zk40, zk45, zk50, zk64, zk97, zk99, zk100, zk102, zk122, zk128, zk255, zk800, zk801, zk900, zk999, zk1000, zk1997, zk9999, zk10000, zk100000, zk99999, zk9999999, zk999999999, zk2147483647, zlc0, zlc1, zlc2, zlc3, zlc4, zlc23, zlc99, zlc100, zlc9999999, zlc999999999999, zlc1073741824, zi_neg, zi_add, zi_sub, zi_mul, zl_neg, zl_add, zl_sub, zl_mul, zi_toInt, zi_nat, zi_le, zi_lt, zi_eq, zl_le, zl_lt, zl_eq, zl_toInt, zl_of32, zi_of64, zi_div, zl_div, zmodI, ↓reduceIte, zTle, zFle, zTlt, zFlt, zTeq, zFeq, if_true, if_false, and_self, and_true, true_and, and_false, false_and, or_self, or_true, true_or, or_false, false_or, not_true_eq_false, not_false_eq_true, zcastA, zcastL, znatC, zab, Int.reduceAdd, Int.reduceSub, Int.reduceMul, Int.reduceNeg, Int.reduceToNat, Nat.reduceAdd]
  · have hN := hN (by omega)
    have nm : ¬ ((m : Int) = (many : Int)) := by omega
    simp (disch := omega) only [nm, B_X12_rings_49, i1, hv, hN, B_X12_rings_74, zb_shl, zb_not, B_X12_rings_132, zbi_some, zbl_some, zbv_some, zbi_none, zbl_none, zbv_none, zbi_ite, zbl_ite, zbv_ite, zbZ, zbO, zc_lt, zc_le, zc_ge, zc_gt, zc_eq, zk0, zk1, zk2, zk3, zk4, zk5, zk6, zk7, zk8, zk9, zk10, zk11, zk12, zk14, zk15, zk16, zk17, zk19, zk20, zk21, zk24, zk25, zk30, zk32, zk36, zk40, zk45, zk50, zk64, zk97, zk99, zk100, zk102, zk122, zk128, zk255, zk800, zk801, zk900, zk999, zk1000, zk1997, zk9999, zk10000, zk100000, zk99999, zk9999999, zk999999999, zk2147483647, zlc0, zlc1, zlc2, zlc3, zlc4, zlc23, zlc99, zlc100, zlc9999999, zlc999999999999, zlc1073741824, zi_neg, zi_add, zi_sub, zi_mul, zl_neg, zl_add, zl_sub, zl_mul, zi_toInt, zi_nat, zi_le, zi_lt, zi_eq, zl_le, zl_lt, zl_eq, zl_toInt, zl_of32, zi_of64, zi_div, zl_div, zmodI, ↓reduceIte, zTle, zFle, zTlt, zFlt, zTeq, zFeq, if_true, if_false, and_self, and_true, true_and, and_false, false_and, or_self, or_true, true_or, or_false, false_or, not_true_eq_false, not_false_eq_true, zcastA, zcastL, znatC, zab, Int.reduceAdd, Int.reduceSub, Int.reduceMul, Int.reduceNeg, Int.reduceToNat, Nat.reduceAdd]
end DFS

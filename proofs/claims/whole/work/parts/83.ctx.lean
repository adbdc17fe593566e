/-! RULES read: the token in hand, for both sides -/
def kd (ty va : Nat → Int) (k : Nat) : Int := ck (ty k) (va k)
def Kc (x : Int) (v : Int) : Prop := x = 0 ∨ x = 1 ∨ (x = 2 ∧ 0 ≤ v ∧ v ≤ 9999) ∨ (x = 3 ∧ 0 ≤ v ∧ v ≤ 5) ∨ (128 ≤ x ∧ x ≤ 142) ∨ (40 ≤ x ∧ x ≤ 63)
theorem kd_c {g : Nat → Int} {L K : Nat} {pl nn : Nat → Nat} {ty va : Nat → Int} (S : Strm g L K pl nn ty va) {k : Nat} (hk : k ≤ K) : Kc (kd ty va k) (va k) ∧ (kd ty va k = 0 ↔ k = K) := by
  obtain ⟨S1, ⟨S2, S3, S4, S5⟩, S6⟩ := S
  unfold kd Kc
  by_cases z : k < K
  · have z' : ¬ k = K := by omega
    obtain ⟨_, _, _, _, t, _⟩ := S1 k z
    unfold Tok mk at t
    rcases t with t | ⟨t, t1, t2⟩ | ⟨t, t1, t2⟩ | ⟨t, t1⟩ | ⟨t, t1⟩
    · have : ck (ty k) (va k) = 1 := by rw [t]; rfl
      rw [this]
      exact ⟨Or.inr (Or.inl rfl), ⟨fun w => absurd w (by decide), fun w => absurd w z'⟩⟩
    · have : ck (ty k) (va k) = 2 := by rw [t]; rfl
      rw [this]
      exact ⟨Or.inr (Or.inr (Or.inl ⟨rfl, t1, t2⟩)), ⟨fun w => absurd w (by decide), fun w => absurd w z'⟩⟩
    · have : ck (ty k) (va k) = 3 := by rw [t]; rfl
      rw [this]
      exact ⟨Or.inr (Or.inr (Or.inr (Or.inl ⟨rfl, t1, t2⟩))), ⟨fun w => absurd w (by decide), fun w => absurd w z'⟩⟩
    · have : ck (ty k) (va k) = if va k ≤ 4 then 128 + va k else 122 + va k := by rw [t]; rfl
      rw [this]
      have : 128 ≤ (if va k ≤ 4 then 128 + va k else 122 + va k) ∧ (if va k ≤ 4 then 128 + va k else 122 + va k) ≤ 142 := by split <;> omega
      exact ⟨Or.inr (Or.inr (Or.inr (Or.inr (Or.inl this)))), ⟨fun w => by omega, fun w => absurd w z'⟩⟩
    · have : ck (ty k) (va k) = va k := by rw [t]; rfl
      rw [this]
      have : 40 ≤ va k ∧ va k ≤ 63 := by omega
      exact ⟨Or.inr (Or.inr (Or.inr (Or.inr (Or.inr this)))), ⟨fun w => by omega, fun w => absurd w z'⟩⟩
  · have : k = K := by omega
    subst this
    have : ck (ty k) (va k) = 0 := by rw [S4]; rfl
    rw [this]
    exact ⟨Or.inl rfl, ⟨fun _ => rfl, fun _ => rfl⟩⟩
/-- the model's two numbers of the token in hand -/
def Mt (x v x9 x10 : Int) : Prop := (x = 0 ∧ x9 = 0) ∨ (x = 1 ∧ x9 = 1) ∨ (x = 2 ∧ x9 = 3 ∧ x10 = v ∧ 0 ≤ v ∧ v ≤ 9999) ∨ (x = 3 ∧ x9 = 2 ∧ x10 = v + 5 ∧ 0 ≤ v ∧ v ≤ 5) ∨ (128 ≤ x ∧ x ≤ 132 ∧ x9 = 2 ∧ x10 = x - 128) ∨ (133 ≤ x ∧ x ≤ 142 ∧ x9 = 2 ∧ x10 = x - 122) ∨ (40 ≤ x ∧ x ≤ 63 ∧ x9 = 4 ∧ x10 = x)
theorem MS_n {g : Nat → Int} {L K : Nat} {pl nn : Nat → Nat} {ty va : Nat → Int} (S : Strm g L K pl nn ty va) {k : Nat} (hk : k ≤ K) {r : Nat → Int32} (h : MS pl nn ty va r k) : ∃ x9 x10 : Int, Mt (kd ty va k) (va k) x9 x10 ∧ r 9 = zi x9 ∧ (2 ≤ x9 → r 10 = zi x10) := by
  obtain ⟨S1, ⟨S2, S3, S4, S5⟩, S6⟩ := S
  obtain ⟨_, _, h9, h10⟩ := h
  unfold kd Mt
  refine ⟨mt (ty k), mv (ty k) (va k), ?_, h9, ?_⟩
  · by_cases z : k < K
    · obtain ⟨_, _, _, _, t, _⟩ := S1 k z
      unfold Tok mk at t
      rcases t with t | ⟨t, t1, t2⟩ | ⟨t, t1, t2⟩ | ⟨t, t1⟩ | ⟨t, t1⟩
      · rw [t]
        exact Or.inr (Or.inl ⟨rfl, rfl⟩)
      · rw [t]
        exact Or.inr (Or.inr (Or.inl ⟨rfl, rfl, rfl, t1, t2⟩))
      · rw [t]
        exact Or.inr (Or.inr (Or.inr (Or.inl ⟨rfl, rfl, rfl, t1, t2⟩)))
      · rw [t]
        rcases t1 with t1 | t1
        · have : ck 4 (va k) = 128 + va k := by show (if va k ≤ 4 then 128 + va k else 122 + va k) = _; rw [if_pos t1.2]
          rw [this]
          exact Or.inr (Or.inr (Or.inr (Or.inr (Or.inl ⟨by omega, by omega, rfl, by show va k = _; omega⟩))))
        · have : ck 4 (va k) = 122 + va k := by show (if va k ≤ 4 then 128 + va k else 122 + va k) = _; rw [if_neg (by omega)]
          rw [this]
          exact Or.inr (Or.inr (Or.inr (Or.inr (Or.inr (Or.inl ⟨by omega, by omega, rfl, by show va k = _; omega⟩)))))
      · have : 40 ≤ va k ∧ va k ≤ 63 := by omega
        rw [t]
        exact Or.inr (Or.inr (Or.inr (Or.inr (Or.inr (Or.inr ⟨this.1, this.2, rfl, rfl⟩)))))
    · have : k = K := by omega
      subst this
      rw [S4]
      exact Or.inl ⟨rfl, rfl⟩
  · intro w
    refine h10 ?_
    by_cases z : k < K
    · obtain ⟨_, _, _, _, t, _⟩ := S1 k z
      unfold Tok at t
      rcases t with t | ⟨t, _⟩ | ⟨t, _⟩ | ⟨t, _⟩ | ⟨t, _⟩
      · have : mt (ty k) = 1 := by rw [t]; rfl
        omega
      · omega
      · omega
      · omega
      · omega
    · have : k = K := by omega
      subst this
      have : mt (ty k) = 0 := by rw [S4]; rfl
      omega
theorem F_isSg (d len : Nat) (μ : zMu) (ν : zNu) {x v x9 x10 : Int} (h : Mt x v x9 x10) (h9 : μ 92 9 = zi x9) (h10 : 2 ≤ x9 → μ 92 10 = zi x10) {c : Int} (hc : 40 ≤ c ∧ c ≤ 63) : zF zT0 (d + 1) 205 [.ref 92, .int (zi c)] (zm len μ ν) = some (.int (zb (x = c)), zm len μ ν) := by
  unfold Mt at h
  have b9 : 0 ≤ x9 ∧ x9 ≤ 4 := by omega
  rw [B_X12_isSign]
  by_cases q : x9 = 4
  · have h10 := h10 (by omega)
    have b10 : x10 = x ∧ 40 ≤ x ∧ x ≤ 63 := by omega
    clear h
    obtain ⟨b10, b11⟩ := b10
    subst b10
    by_cases w : x10 = c
    · simp (disch := omega) only [h9, h10, q, w, zbT, zbi_some, zbl_some, zbv_some, zbi_none, zbl_none, zbv_none, zbi_ite, zbl_ite, zbv_ite, zbZ, zbO, zc_lt, zc_le, zc_ge, zc_gt, zc_eq, zk0, zk1, zk2, zk3, zk4, zk5, zk6, zk7, zk8, zk9, zk10, zk11, zk12, zk14, zk15, zk16, zk17, zk19, zk20, zk21, zk24, zk25, zk30, zk32, zk36, zk40, zk45, zk50, zk64, zk97, zk99, zk100, zk102, zk122, zk128, zk255, zk800, zk801, zk900, zk999, zk1000, zk1997, zk9999, zk10000, zk100000, zk99999, zk9999999, zk999999999, zk2147483647, zlc0, zlc1, zlc2, zlc3, zlc4, zlc23, zlc99, zlc100, zlc9999999, zlc999999999999, zlc1073741824, zi_neg, zi_add, zi_sub, zi_mul, zl_neg, zl_add, zl_sub, zl_mul, zi_toInt, zi_nat, zi_le, zi_lt, zi_eq, zl_le, zl_lt, zl_eq, zl_toInt, zl_of32, zi_of64, zi_div, zl_div, zmodI, ↓reduceIte, zTle, zFle, zTlt, zFlt, zTeq, zFeq, if_true, if_false, and_self, and_true, true_and, and_false, false_and, or_self, or_true, true_or, or_false, false_or, not_true_eq_false, not_false_eq_true, zcastA, zcastL, znatC, zab, Int.reduceAdd, Int.reduceSub, Int.reduceMul, Int.reduceNeg, Int.reduceToNat, Nat.reduceAdd]
    · simp (disch := omega) only [h9, h10, q, w, zbF, zbi_some, zbl_some, zbv_some, zbi_none, zbl_none, zbv_none, zbi_ite, zbl_ite, zbv_ite, zbZ, zbO, zc_lt, zc_le, zc_ge, zc_gt, zc_eq, zk0, zk1, zk2, zk3, zk4, zk5, zk6, zk7, zk8, zk9, zk10, zk11, zk12, zk14, zk15, zk16, zk17, zk19, zk20, zk21, zk24, zk25, zk30, zk32, zk36, zk40, zk45, zk50, zk64, zk97, zk99, zk100, zk102, zk122, zk128, zk255, zk800, zk801, zk900, zk999, zk1000, zk1997, zk9999, zk10000, zk100000, zk99999, zk9999999, zk999999999, zk2147483647, zlc0, zlc1, zlc2, zlc3, zlc4, zlc23, zlc99, zlc100, zlc9999999, zlc999999999999, zlc1073741824, zi_neg, zi_add, zi_sub, zi_mul, zl_neg, zl_add, zl_sub, zl_mul, zi_toInt, zi_nat, zi_le, zi_lt, zi_eq, zl_le, zl_lt, zl_eq, zl_toInt, zl_of32, zi_of64, zi_div, zl_div, zmodI, ↓reduceIte, zTle, zFle, zTlt, zFlt, zTeq, zFeq, if_true, if_false, and_self, and_true, true_and, and_false, false_and, or_self, or_true, true_or, or_false, false_or, not_true_eq_false, not_false_eq_true, zcastA, zcastL, znatC, zab, Int.reduceAdd, Int.reduceSub, Int.reduceMul, Int.reduceNeg, Int.reduceToNat, Nat.reduceAdd]
  · have : ¬ x = c := by omega
    clear h
    simp (disch := omega) only [h9, q, this, zbF, zbi_some, zbl_some, zbv_some, zbi_none, zbl_none, zbv_none, zbi_ite, zbl_ite, zbv_ite, zbZ, zbO, zc_lt, zc_le, zc_ge, zc_gt, zc_eq, zk0, zk1, zk2, zk3, zk4, zk5, zk6, zk7, zk8, zk9, zk10, zk11, zk12, zk14, zk15, zk16, zk17, zk19, zk20, zk21, zk24, zk25, zk30, zk32, zk36, zk40, zk45, zk50, zk64, zk97, zk99, zk100, zk102, zk122, zk128, zk255, zk800, zk801, zk900, zk999, zk1000, zk1997, zk9999, zk10000, zk100000, zk99999, zk9999999, zk999999999, zk2147483647, zlc0, zlc1, zlc2, zlc3, zlc4, zlc23, zlc99, zlc100, zlc9999999, zlc999999999999, zlc1073741824, zi_neg, zi_add, zi_sub, zi_mul, zl_neg, zl_add, zl_sub, zl_mul, zi_toInt, zi_nat, zi_le, zi_lt, zi_eq, zl_le, zl_lt, zl_eq, zl_toInt, zl_of32, zi_of64, zi_div, zl_div, zmodI, ↓reduceIte, zTle, zFle, zTlt, zFlt, zTeq, zFeq, if_true, if_false, and_self, and_true, true_and, and_false, false_and, or_self, or_true, true_or, or_false, false_or, not_true_eq_false, not_false_eq_true, zcastA, zcastL, znatC, zab, Int.reduceAdd, Int.reduceSub, Int.reduceMul, Int.reduceNeg, Int.reduceToNat, Nat.reduceAdd]
theorem F_isWd (d len : Nat) (μ : zMu) (ν : zNu) {x v x9 x10 : Int} (h : Mt x v x9 x10) (h9 : μ 92 9 = zi x9) (h10 : 2 ≤ x9 → μ 92 10 = zi x10) {w y : Int} (hc : (0 ≤ w ∧ w ≤ 4 ∧ y = 128 + w) ∨ (11 ≤ w ∧ w ≤ 20 ∧ y = 122 + w)) : zF zT0 (d + 1) 204 [.ref 92, .int (zi w)] (zm len μ ν) = some (.int (zb (x = y)), zm len μ ν) := by
  unfold Mt at h
  have b9 : 0 ≤ x9 ∧ x9 ≤ 4 := by omega
  have bw : 0 ≤ w ∧ w ≤ 20 := by omega
  rw [B_X12_isWord]
  by_cases q : x9 = 2
  · have h10 := h10 (by omega)
    have b10 : 0 ≤ x10 ∧ x10 ≤ 20 := by omega
    by_cases u : x10 = w
    · have : x = y := by omega
      clear h hc
      subst this
      simp (disch := omega) only [h9, h10, q, u, zbT, zbi_some, zbl_some, zbv_some, zbi_none, zbl_none, zbv_none, zbi_ite, zbl_ite, zbv_ite, zbZ, zbO, zc_lt, zc_le, zc_ge, zc_gt, zc_eq, zk0, zk1, zk2, zk3, zk4, zk5, zk6, zk7, zk8, zk9, zk10, zk11, zk12, zk14, zk15, zk16, zk17, zk19, zk20, zk21, zk24, zk25, zk30, zk32, zk36, zk40, zk45, zk50, zk64, zk97, zk99, zk100, zk102, zk122, zk128, zk255, zk800, zk801, zk900, zk999, zk1000, zk1997, zk9999, zk10000, zk100000, zk99999, zk9999999, zk999999999, zk2147483647, zlc0, zlc1, zlc2, zlc3, zlc4, zlc23, zlc99, zlc100, zlc9999999, zlc999999999999, zlc1073741824, zi_neg, zi_add, zi_sub, zi_mul, zl_neg, zl_add, zl_sub, zl_mul, zi_toInt, zi_nat, zi_le, zi_lt, zi_eq, zl_le, zl_lt, zl_eq, zl_toInt, zl_of32, zi_of64, zi_div, zl_div, zmodI, ↓reduceIte, zTle, zFle, zTlt, zFlt, zTeq, zFeq, if_true, if_false, and_self, and_true, true_and, and_false, false_and, or_self, or_true, true_or, or_false, false_or, not_true_eq_false, not_false_eq_true, zcastA, zcastL, znatC, zab, Int.reduceAdd, Int.reduceSub, Int.reduceMul, Int.reduceNeg, Int.reduceToNat, Nat.reduceAdd]
    · have : ¬ x = y := by omega
      clear h hc
      simp (disch := omega) only [h9, h10, q, u, this, zbF, zbi_some, zbl_some, zbv_some, zbi_none, zbl_none, zbv_none, zbi_ite, zbl_ite, zbv_ite, zbZ, zbO, zc_lt, zc_le, zc_ge, zc_gt, zc_eq, zk0, zk1, zk2, zk3, zk4, zk5, zk6, zk7, zk8, zk9, zk10, zk11, zk12, zk14, zk15, zk16, zk17, zk19, zk20, zk21, zk24, zk25, zk30, zk32, zk36, zk40, zk45, zk50, zk64, zk97, zk99, zk100, zk102, zk122, zk128, zk255, zk800, zk801, zk900, zk999, zk1000, zk1997, zk9999, zk10000, zk100000, zk99999, zk9999999, zk999999999, zk2147483647, zlc0, zlc1, zlc2, zlc3, zlc4, zlc23, zlc99, zlc100, zlc9999999, zlc999999999999, zlc1073741824, zi_neg, zi_add, zi_sub, zi_mul, zl_neg, zl_add, zl_sub, zl_mul, zi_toInt, zi_nat, zi_le, zi_lt, zi_eq, zl_le, zl_lt, zl_eq, zl_toInt, zl_of32, zi_of64, zi_div, zl_div, zmodI, ↓reduceIte, zTle, zFle, zTlt, zFlt, zTeq, zFeq, if_true, if_false, and_self, and_true, true_and, and_false, false_and, or_self, or_true, true_or, or_false, false_or, not_true_eq_false, not_false_eq_true, zcastA, zcastL, znatC, zab, Int.reduceAdd, Int.reduceSub, Int.reduceMul, Int.reduceNeg, Int.reduceToNat, Nat.reduceAdd]
  · have : ¬ x = y := by omega
    clear h hc
    simp (disch := omega) only [h9, q, this, zbF, zbi_some, zbl_some, zbv_some, zbi_none, zbl_none, zbv_none, zbi_ite, zbl_ite, zbv_ite, zbZ, zbO, zc_lt, zc_le, zc_ge, zc_gt, zc_eq, zk0, zk1, zk2, zk3, zk4, zk5, zk6, zk7, zk8, zk9, zk10, zk11, zk12, zk14, zk15, zk16, zk17, zk19, zk20, zk21, zk24, zk25, zk30, zk32, zk36, zk40, zk45, zk50, zk64, zk97, zk99, zk100, zk102, zk122, zk128, zk255, zk800, zk801, zk900, zk999, zk1000, zk1997, zk9999, zk10000, zk100000, zk99999, zk9999999, zk999999999, zk2147483647, zlc0, zlc1, zlc2, zlc3, zlc4, zlc23, zlc99, zlc100, zlc9999999, zlc999999999999, zlc1073741824, zi_neg, zi_add, zi_sub, zi_mul, zl_neg, zl_add, zl_sub, zl_mul, zi_toInt, zi_nat, zi_le, zi_lt, zi_eq, zl_le, zl_lt, zl_eq, zl_toInt, zl_of32, zi_of64, zi_div, zl_div, zmodI, ↓reduceIte, zTle, zFle, zTlt, zFlt, zTeq, zFeq, if_true, if_false, and_self, and_true, true_and, and_false, false_and, or_self, or_true, true_or, or_false, false_or, not_true_eq_false, not_false_eq_true, zcastA, zcastL, znatC, zab, Int.reduceAdd, Int.reduceSub, Int.reduceMul, Int.reduceNeg, Int.reduceToNat, Nat.reduceAdd]
/-- what is written behind a place -/
def wrL (f : Nat → Int32) : Nat → List Int32 → Nat → Int32
  | _, [] => f
  | m, x :: xs => wrL (upd f m x) (m + 1) xs
theorem wrL_app : ∀ (xs ys : List Int32) (f : Nat → Int32) (m : Nat), wrL f m (xs ++ ys) = wrL (wrL f m xs) (m + xs.length) ys
  | [], ys, f, m => rfl
  | x :: xs, ys, f, m => by
    have := wrL_app xs ys (upd f m x) (m + 1)
    show wrL (upd f m x) (m + 1) (xs ++ ys) = wrL (wrL (upd f m x) (m + 1) xs) (m + (xs.length + 1)) ys
    rw [this, show m + 1 + xs.length = m + (xs.length + 1) by omega]
theorem wrL_lo : ∀ (xs : List Int32) (f : Nat → Int32) (m i : Nat), i < m → wrL f m xs i = f i
  | [], _, _, _, _ => rfl
  | x :: xs, f, m, i, h => by
    show wrL (upd f m x) (m + 1) xs i = f i
    rw [wrL_lo xs _ (m + 1) i (by omega), upd_ne _ _ (by omega)]
theorem wrL_hi : ∀ (xs : List Int32) (f : Nat → Int32) (m i : Nat), m + xs.length ≤ i → wrL f m xs i = f i
  | [], _, _, _, _ => rfl
  | x :: xs, f, m, i, h => by
    have h : m + (xs.length + 1) ≤ i := h
    show wrL (upd f m x) (m + 1) xs i = f i
    rw [wrL_hi xs _ (m + 1) i (by omega), upd_ne _ _ (by omega)]
theorem wrL_at : ∀ (xs : List Int32) (f : Nat → Int32) (m i : Nat) (x : Int32), xs[i]? = some x → wrL f m xs (m + i) = x
  | [], _, _, _, _, h => by cases h
  | y :: ys, f, m, 0, x, h => by
    have : y = x := Option.some.inj h
    subst this
    show wrL (upd f m y) (m + 1) ys m = y
    rw [wrL_lo _ _ _ _ (by omega), upd_eq]
  | y :: ys, f, m, i + 1, x, h => by
    show wrL (upd f m y) (m + 1) ys (m + (i + 1)) = x
    rw [show m + (i + 1) = m + 1 + i by omega]
    exact wrL_at ys _ (m + 1) i x h
def opc (p : Int × Int) : Int32 := zi (opC p.1 p.2)
def opo (p : Int × Int) : Int32 := zi p.1
def opa (p : Int × Int) : Int32 := zi p.2
abbrev CM (X : zMu) (c q f : Nat → Int32) : zMu := zrw (zrw (zrw X 6 c) 57 q) 62 f
abbrev Mm (Y : zMu) (r a b e : Nat → Int32) : zMu := zrw (zrw (zrw (zrw Y 143 a) 144 b) 145 e) 92 r
section CTX
variable (d len : Nat) (X : zMu) (ν : zNu) (c q f : Nat → Int32)
theorem F_kindc {k : Nat} {x : Int} (hk : k ≤ 800) (e6 : c 6 = zi (k : Int)) (e8 : X 8 k = zi x) : zF zT0 (d + 1) 129 [.ref 6] (zm len (CM X c q f) ν) = some (.int (zi x), zm len (CM X c q f) ν) := by
  rw [B_X10_kind]
  simp (disch := omega) only [zrw_s, zrw_n, e6, e8, zbi_some, zbl_some, zbv_some, zbi_none, zbl_none, zbv_none, zbi_ite, zbl_ite, zbv_ite, zbZ, zbO, zc_lt, zc_le, zc_ge, zc_gt, zc_eq, zk0, zk1, zk2, zk3, zk4, zk5, zk6, zk7, zk8, zk9, zk10, zk11, zk12, zk14, zk15, zk16, zk17, zk19, zk20, zk21, zk24, zk25, zk30, zk32, zk36, zk40, zk45, zk50, zk64, zk97, zk99, zk100, zk102, zk122, zk128, zk255, zk800, zk801, zk900, zk999, zk1000, zk1997, zk9999, zk10000, zk100000, zk99999, zk9999999, zk999999999, zk2147483647, zlc0, zlc1, zlc2, zlc3, zlc4, zlc23, zlc99, zlc100, zlc9999999, zlc999999999999, zlc1073741824, zi_neg, zi_add, zi_sub, zi_mul, zl_neg, zl_add, zl_sub, zl_mul, zi_toInt, zi_nat, zi_le, zi_lt, zi_eq, zl_le, zl_lt, zl_eq, zl_toInt, zl_of32, zi_of64, zi_div, zl_div, zmodI, ↓reduceIte, zTle, zFle, zTlt, zFlt, zTeq, zFeq, if_true, if_false, and_self, and_true, true_and, and_false, false_and, or_self, or_true, true_or, or_false, false_or, not_true_eq_false, not_false_eq_true, zcastA, zcastL, znatC, zab, Int.reduceAdd, Int.reduceSub, Int.reduceMul, Int.reduceNeg, Int.reduceToNat, Nat.reduceAdd]
theorem F_valc {k : Nat} {x : Int} (hk : k ≤ 800) (e6 : c 6 = zi (k : Int)) (e9 : X 9 k = zi x) : zF zT0 (d + 1) 130 [.ref 6] (zm len (CM X c q f) ν) = some (.int (zi x), zm len (CM X c q f) ν) := by
  rw [B_X10_value]
  simp (disch := omega) only [zrw_s, zrw_n, e6, e9, zbi_some, zbl_some, zbv_some, zbi_none, zbl_none, zbv_none, zbi_ite, zbl_ite, zbv_ite, zbZ, zbO, zc_lt, zc_le, zc_ge, zc_gt, zc_eq, zk0, zk1, zk2, zk3, zk4, zk5, zk6, zk7, zk8, zk9, zk10, zk11, zk12, zk14, zk15, zk16, zk17, zk19, zk20, zk21, zk24, zk25, zk30, zk32, zk36, zk40, zk45, zk50, zk64, zk97, zk99, zk100, zk102, zk122, zk128, zk255, zk800, zk801, zk900, zk999, zk1000, zk1997, zk9999, zk10000, zk100000, zk99999, zk9999999, zk999999999, zk2147483647, zlc0, zlc1, zlc2, zlc3, zlc4, zlc23, zlc99, zlc100, zlc9999999, zlc999999999999, zlc1073741824, zi_neg, zi_add, zi_sub, zi_mul, zl_neg, zl_add, zl_sub, zl_mul, zi_toInt, zi_nat, zi_le, zi_lt, zi_eq, zl_le, zl_lt, zl_eq, zl_toInt, zl_of32, zi_of64, zi_div, zl_div, zmodI, ↓reduceIte, zTle, zFle, zTlt, zFlt, zTeq, zFeq, if_true, if_false, and_self, and_true, true_and, and_false, false_and, or_self, or_true, true_or, or_false, false_or, not_true_eq_false, not_false_eq_true, zcastA, zcastL, znatC, zab, Int.reduceAdd, Int.reduceSub, Int.reduceMul, Int.reduceNeg, Int.reduceToNat, Nat.reduceAdd]
theorem F_movec {k K : Nat} (hk : k < K) (hK : K ≤ 800) (e5 : c 5 = zi ((K : Int) + 1)) (e6 : c 6 = zi (k : Int)) : zF zT0 (d + 1) 132 [.ref 6] (zm len (CM X c q f) ν) = some (.null, zm len (CM X (upd c 6 (zi ((k : Int) + 1))) q f) ν) := by
  rw [B_X10_move]
  simp (disch := omega) only [zrw_s, zrw_n, e5, e6, zup_zrw_n, zup_zrw, zbi_some, zbl_some, zbv_some, zbi_none, zbl_none, zbv_none, zbi_ite, zbl_ite, zbv_ite, zbZ, zbO, zc_lt, zc_le, zc_ge, zc_gt, zc_eq, zk0, zk1, zk2, zk3, zk4, zk5, zk6, zk7, zk8, zk9, zk10, zk11, zk12, zk14, zk15, zk16, zk17, zk19, zk20, zk21, zk24, zk25, zk30, zk32, zk36, zk40, zk45, zk50, zk64, zk97, zk99, zk100, zk102, zk122, zk128, zk255, zk800, zk801, zk900, zk999, zk1000, zk1997, zk9999, zk10000, zk100000, zk99999, zk9999999, zk999999999, zk2147483647, zlc0, zlc1, zlc2, zlc3, zlc4, zlc23, zlc99, zlc100, zlc9999999, zlc999999999999, zlc1073741824, zi_neg, zi_add, zi_sub, zi_mul, zl_neg, zl_add, zl_sub, zl_mul, zi_toInt, zi_nat, zi_le, zi_lt, zi_eq, zl_le, zl_lt, zl_eq, zl_toInt, zl_of32, zi_of64, zi_div, zl_div, zmodI, ↓reduceIte, zTle, zFle, zTlt, zFlt, zTeq, zFeq, if_true, if_false, and_self, and_true, true_and, and_false, false_and, or_self, or_true, true_or, or_false, false_or, not_true_eq_false, not_false_eq_true, zcastA, zcastL, znatC, zab, Int.reduceAdd, Int.reduceSub, Int.reduceMul, Int.reduceNeg, Int.reduceToNat, Nat.reduceAdd]
theorem F_failc {k : Nat} {p : Int} (hk : k ≤ 800) (e6 : c 6 = zi (k : Int)) (e10 : X 10 k = zi p) (x : Int32) : zF zT0 (d + 1) 134 [.ref 6, .int x] (zm len (CM X c q f) ν) = some (.int (zi 0), zm len (CM X (upd (upd c 7 x) 8 (zi p)) q f) ν) := by
  rw [B_X10_fail]
  simp (disch := omega) only [zrw_s, zrw_n, e6, e10, zup_zrw_n, zup_zrw, zbi_some, zbl_some, zbv_some, zbi_none, zbl_none, zbv_none, zbi_ite, zbl_ite, zbv_ite, zbZ, zbO, zc_lt, zc_le, zc_ge, zc_gt, zc_eq, zk0, zk1, zk2, zk3, zk4, zk5, zk6, zk7, zk8, zk9, zk10, zk11, zk12, zk14, zk15, zk16, zk17, zk19, zk20, zk21, zk24, zk25, zk30, zk32, zk36, zk40, zk45, zk50, zk64, zk97, zk99, zk100, zk102, zk122, zk128, zk255, zk800, zk801, zk900, zk999, zk1000, zk1997, zk9999, zk10000, zk100000, zk99999, zk9999999, zk999999999, zk2147483647, zlc0, zlc1, zlc2, zlc3, zlc4, zlc23, zlc99, zlc100, zlc9999999, zlc999999999999, zlc1073741824, zi_neg, zi_add, zi_sub, zi_mul, zl_neg, zl_add, zl_sub, zl_mul, zi_toInt, zi_nat, zi_le, zi_lt, zi_eq, zl_le, zl_lt, zl_eq, zl_toInt, zl_of32, zi_of64, zi_div, zl_div, zmodI, ↓reduceIte, zTle, zFle, zTlt, zFlt, zTeq, zFeq, if_true, if_false, and_self, and_true, true_and, and_false, false_and, or_self, or_true, true_or, or_false, false_or, not_true_eq_false, not_false_eq_true, zcastA, zcastL, znatC, zab, Int.reduceAdd, Int.reduceSub, Int.reduceMul, Int.reduceNeg, Int.reduceToNat, Nat.reduceAdd]
theorem F_takec {k K : Nat} {x y : Int} (hk : k < K) (hK : K ≤ 800) (e5 : c 5 = zi ((K : Int) + 1)) (e6 : c 6 = zi (k : Int)) (e8 : X 8 k = zi x) (hx : 0 ≤ x ∧ x ≤ 200) (h : x = y) : zF zT0 (d + 2) 133 [.ref 6, .int (zi y)] (zm len (CM X c q f) ν) = some (.int (zi 1), zm len (CM X (upd c 6 (zi ((k : Int) + 1))) q f) ν) := by
  rw [B_X10_take]
  have T := F_movec d len X ν c q f hk hK e5 e6
  simp (disch := omega) only [zrw_s, zrw_n, e6, e8, h, T, B_X10_take_23, zbi_some, zbl_some, zbv_some, zbi_none, zbl_none, zbv_none, zbi_ite, zbl_ite, zbv_ite, zbZ, zbO, zc_lt, zc_le, zc_ge, zc_gt, zc_eq, zk0, zk1, zk2, zk3, zk4, zk5, zk6, zk7, zk8, zk9, zk10, zk11, zk12, zk14, zk15, zk16, zk17, zk19, zk20, zk21, zk24, zk25, zk30, zk32, zk36, zk40, zk45, zk50, zk64, zk97, zk99, zk100, zk102, zk122, zk128, zk255, zk800, zk801, zk900, zk999, zk1000, zk1997, zk9999, zk10000, zk100000, zk99999, zk9999999, zk999999999, zk2147483647, zlc0, zlc1, zlc2, zlc3, zlc4, zlc23, zlc99, zlc100, zlc9999999, zlc999999999999, zlc1073741824, zi_neg, zi_add, zi_sub, zi_mul, zl_neg, zl_add, zl_sub, zl_mul, zi_toInt, zi_nat, zi_le, zi_lt, zi_eq, zl_le, zl_lt, zl_eq, zl_toInt, zl_of32, zi_of64, zi_div, zl_div, zmodI, ↓reduceIte, zTle, zFle, zTlt, zFlt, zTeq, zFeq, if_true, if_false, and_self, and_true, true_and, and_false, false_and, or_self, or_true, true_or, or_false, false_or, not_true_eq_false, not_false_eq_true, zcastA, zcastL, znatC, zab, Int.reduceAdd, Int.reduceSub, Int.reduceMul, Int.reduceNeg, Int.reduceToNat, Nat.reduceAdd]
theorem F_taken {k : Nat} {x y p : Int} (hk : k ≤ 800) (e6 : c 6 = zi (k : Int)) (e8 : X 8 k = zi x) (e10 : X 10 k = zi p) (hx : 0 ≤ x ∧ x ≤ 200) (hy : 0 ≤ y ∧ y ≤ 200) (h : x ≠ y) : zF zT0 (d + 2) 133 [.ref 6, .int (zi y)] (zm len (CM X c q f) ν) = some (.int (zi 0), zm len (CM X (upd (upd c 7 (zi 1)) 8 (zi p)) q f) ν) := by
  rw [B_X10_take]
  have T := F_failc d len X ν c q f hk e6 e10 (zi 1)
  simp (disch := omega) only [zrw_s, zrw_n, e6, e8, h, T, B_X10_take_18, zbi_some, zbl_some, zbv_some, zbi_none, zbl_none, zbv_none, zbi_ite, zbl_ite, zbv_ite, zbZ, zbO, zc_lt, zc_le, zc_ge, zc_gt, zc_eq, zk0, zk1, zk2, zk3, zk4, zk5, zk6, zk7, zk8, zk9, zk10, zk11, zk12, zk14, zk15, zk16, zk17, zk19, zk20, zk21, zk24, zk25, zk30, zk32, zk36, zk40, zk45, zk50, zk64, zk97, zk99, zk100, zk102, zk122, zk128, zk255, zk800, zk801, zk900, zk999, zk1000, zk1997, zk9999, zk10000, zk100000, zk99999, zk9999999, zk999999999, zk2147483647, zlc0, zlc1, zlc2, zlc3, zlc4, zlc23, zlc99, zlc100, zlc9999999, zlc999999999999, zlc1073741824, zi_neg, zi_add, zi_sub, zi_mul, zl_neg, zl_add, zl_sub, zl_mul, zi_toInt, zi_nat, zi_le, zi_lt, zi_eq, zl_le, zl_lt, zl_eq, zl_toInt, zl_of32, zi_of64, zi_div, zl_div, zmodI, ↓reduceIte, zTle, zFle, zTlt, zFlt, zTeq, zFeq, if_true, if_false, and_self, and_true, true_and, and_false, false_and, or_self, or_true, true_or, or_false, false_or, not_true_eq_false, not_false_eq_true, zcastA, zcastL, znatC, zab, Int.reduceAdd, Int.reduceSub, Int.reduceMul, Int.reduceNeg, Int.reduceToNat, Nat.reduceAdd]
theorem F_write {m : Nat} (hm : m < 800) (e7 : q 7 = zi (m : Int)) (x : Int32) : zF zT0 (d + 1) 93 [.ref 57, .int x] (zm len (CM X c q f) ν) = some (.null, zm len (CM X c (upd q 7 (zi ((m : Int) + 1))) (upd f m x)) ν) := by
  have e800 : Int32.ofNat 800 = zi 800 := rfl
  rw [B_X7_write]
  simp (disch := omega) only [e800, zrw_s, zrw_n, e7, zup_zrw_n, zup_zrw, zbi_some, zbl_some, zbv_some, zbi_none, zbl_none, zbv_none, zbi_ite, zbl_ite, zbv_ite, zbZ, zbO, zc_lt, zc_le, zc_ge, zc_gt, zc_eq, zk0, zk1, zk2, zk3, zk4, zk5, zk6, zk7, zk8, zk9, zk10, zk11, zk12, zk14, zk15, zk16, zk17, zk19, zk20, zk21, zk24, zk25, zk30, zk32, zk36, zk40, zk45, zk50, zk64, zk97, zk99, zk100, zk102, zk122, zk128, zk255, zk800, zk801, zk900, zk999, zk1000, zk1997, zk9999, zk10000, zk100000, zk99999, zk9999999, zk999999999, zk2147483647, zlc0, zlc1, zlc2, zlc3, zlc4, zlc23, zlc99, zlc100, zlc9999999, zlc999999999999, zlc1073741824, zi_neg, zi_add, zi_sub, zi_mul, zl_neg, zl_add, zl_sub, zl_mul, zi_toInt, zi_nat, zi_le, zi_lt, zi_eq, zl_le, zl_lt, zl_eq, zl_toInt, zl_of32, zi_of64, zi_div, zl_div, zmodI, ↓reduceIte, zTle, zFle, zTlt, zFlt, zTeq, zFeq, if_true, if_false, and_self, and_true, true_and, and_false, false_and, or_self, or_true, true_or, or_false, false_or, not_true_eq_false, not_false_eq_true, zcastA, zcastL, znatC, zab, Int.reduceAdd, Int.reduceSub, Int.reduceMul, Int.reduceNeg, Int.reduceToNat, Nat.reduceAdd]
variable (Y : zMu) (r a b e : Nat → Int32)
theorem F_emit {m B : Nat} {hd : Int} (hm : m < 800) (hhd : 0 ≤ hd ∧ hd ≤ 1) (hB : (B : Int) = 800 * (1 - hd)) (e67 : r 67 = zi hd) (e75 : r 75 = zi (m : Int)) (x y : Int32) : zF zT0 (d + 1) 253 [.ref 92, .int x, .int y] (zm len (Mm Y r a b e) ν) = some (.null, zm len (Mm Y (upd r 75 (zi ((m : Int) + 1))) (upd a (B + m) x) (upd b (B + m) y) e) ν) := by
  have z800 : (800 : Int32) = zi 800 := rfl
  have ix : (800 * (1 - hd) + (m : Int)).toNat = B + m := by omega
  rw [B_X12_emits]
  simp (disch := omega) only [z800, zrw_s, zrw_n, e67, e75, ix, zup_zrw_n, zup_zrw, zbi_some, zbl_some, zbv_some, zbi_none, zbl_none, zbv_none, zbi_ite, zbl_ite, zbv_ite, zbZ, zbO, zc_lt, zc_le, zc_ge, zc_gt, zc_eq, zk0, zk1, zk2, zk3, zk4, zk5, zk6, zk7, zk8, zk9, zk10, zk11, zk12, zk14, zk15, zk16, zk17, zk19, zk20, zk21, zk24, zk25, zk30, zk32, zk36, zk40, zk45, zk50, zk64, zk97, zk99, zk100, zk102, zk122, zk128, zk255, zk800, zk801, zk900, zk999, zk1000, zk1997, zk9999, zk10000, zk100000, zk99999, zk9999999, zk999999999, zk2147483647, zlc0, zlc1, zlc2, zlc3, zlc4, zlc23, zlc99, zlc100, zlc9999999, zlc999999999999, zlc1073741824, zi_neg, zi_add, zi_sub, zi_mul, zl_neg, zl_add, zl_sub, zl_mul, zi_toInt, zi_nat, zi_le, zi_lt, zi_eq, zl_le, zl_lt, zl_eq, zl_toInt, zl_of32, zi_of64, zi_div, zl_div, zmodI, ↓reduceIte, zTle, zFle, zTlt, zFlt, zTeq, zFeq, if_true, if_false, and_self, and_true, true_and, and_false, false_and, or_self, or_true, true_or, or_false, false_or, not_true_eq_false, not_false_eq_true, zcastA, zcastL, znatC, zab, Int.reduceAdd, Int.reduceSub, Int.reduceMul, Int.reduceNeg, Int.reduceToNat, Nat.reduceAdd]
theorem F_fails (x : Int32) : zF zT0 (d + 2) 203 [.ref 92, .int x] (zm len (Mm Y r a b e) ν) = some (.int (zi (-1)), zm len (Mm Y (upd (upd r 12 x) 13 (r 8)) a b e) ν) := by
  rw [B_X12_fails]
  simp (disch := omega) only [B_X12_failsAt, zrw_s, zrw_n, zup_zrw, upd_ne, B_X12_fails_9, zbi_some, zbl_some, zbv_some, zbi_none, zbl_none, zbv_none, zbi_ite, zbl_ite, zbv_ite, zbZ, zbO, zc_lt, zc_le, zc_ge, zc_gt, zc_eq, zk0, zk1, zk2, zk3, zk4, zk5, zk6, zk7, zk8, zk9, zk10, zk11, zk12, zk14, zk15, zk16, zk17, zk19, zk20, zk21, zk24, zk25, zk30, zk32, zk36, zk40, zk45, zk50, zk64, zk97, zk99, zk100, zk102, zk122, zk128, zk255, zk800, zk801, zk900, zk999, zk1000, zk1997, zk9999, zk10000, zk100000, zk99999, zk9999999, zk999999999, zk2147483647, zlc0, zlc1, zlc2, zlc3, zlc4, zlc23, zlc99, zlc100, zlc9999999, zlc999999999999, zlc1073741824, zi_neg, zi_add, zi_sub, zi_mul, zl_neg, zl_add, zl_sub, zl_mul, zi_toInt, zi_nat, zi_le, zi_lt, zi_eq, zl_le, zl_lt, zl_eq, zl_toInt, zl_of32, zi_of64, zi_div, zl_div, zmodI, ↓reduceIte, zTle, zFle, zTlt, zFlt, zTeq, zFeq, if_true, if_false, and_self, and_true, true_and, and_false, false_and, or_self, or_true, true_or, or_false, false_or, not_true_eq_false, not_false_eq_true, zcastA, zcastL, znatC, zab, Int.reduceAdd, Int.reduceSub, Int.reduceMul, Int.reduceNeg, Int.reduceToNat, Nat.reduceAdd]
end CTX

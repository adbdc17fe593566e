/-! RULES read: products and sums, both sides -/
def pend (w : Int) : List (Int × Int) := if w = 0 then [] else if w = 43 then [(2, 0)] else [(3, 0)]
def PRC (K : Nat) (pl : Nat → Nat) (ty va : Nat → Int) (k k' : Nat) (cs : List (Int × Int)) : Prop := ∀ (D len : Nat) (X : zMu) (ν : zNu) (c q f : Nat → Int32) (m : Nat) (w : Int) (i : Nat) (v3 v4 : Value), 3 ≤ D → CcX K pl ty va X → c 5 = zi ((K : Int) + 1) → m ≤ k → (0 ≤ w ∧ w ≤ 45) → i + 1 ≤ k → ∃ (i' : Nat) (v3' v4' : Value), i' + 1 ≤ k' ∧ zE zc_X7_readSum (zF zT0 D) 13 [.ref 57, .int (zi w), .int (zi (i : Int)), v3, v4] [] (zm len (ST X c q k m f) ν) = zE zc_X7_readSum (zF zT0 D) 13 [.ref 57, .int (zi w), .int (zi (i' : Int)), v3', v4'] [] (zm len (ST X c q k' (m + cs.length) (wrL f m (cs.map opc))) ν)
def PRCF (K : Nat) (pl : Nat → Nat) (ty va : Nat → Int) (k kf : Nat) (ft : Int) : Prop := ∀ (D len : Nat) (X : zMu) (ν : zNu) (c q f : Nat → Int32) (m : Nat) (w : Int) (i : Nat) (v3 v4 : Value), 3 ≤ D → CcX K pl ty va X → c 5 = zi ((K : Int) + 1) → m ≤ k → (0 ≤ w ∧ w ≤ 45) → i + 1 ≤ k → ∃ c' q' f' : Nat → Int32, zE zc_X7_readSum (zF zT0 D) 13 [.ref 57, .int (zi w), .int (zi (i : Int)), v3, v4] [] (zm len (ST X c q k m f) ν) = some (.int (zi 0), zm len (CM X c' q' f') ν) ∧ c' 7 = zi ft ∧ c' 8 = zi (pl kf : Int) ∧ frC c c' q q'
/-- the model's loops come through -/
def LM (g : Nat → Int) (L : Nat) (pl nn : Nat → Nat) (ty va : Nat → Int) (code : Nat → zO) (need pc k k' : Nat) (cs : List (Int × Int)) : Prop := ∀ (d len : Nat) (Y : zMu) (ν : zNu) (r a b e : Nat → Int32) (m B : Nat) (hd : Int) (v : Value), (0 ≤ hd ∧ hd ≤ 1) → (B : Int) = 800 * (1 - hd) → CcY g Y → r 6 = zi (L : Int) → r 67 = zi hd → r 75 = zi (m : Int) → m ≤ k → MS pl nn ty va r k → ∃ r', zE code (zF zT0 (d + need)) pc [.ref 92, v] [] (zm len (Mm Y r a b e) ν) = some (.int (zi 0), zm len (Mm Y r' (wrL a (B + m) (cs.map opo)) (wrL b (B + m) (cs.map opa)) e) ν) ∧ MS pl nn ty va r' k' ∧ r' 75 = zi ((m + cs.length : Nat) : Int) ∧ ∀ i, i ≠ 7 → i ≠ 8 → i ≠ 9 → i ≠ 10 → i ≠ 75 → r' i = r i
def LMF (g : Nat → Int) (L : Nat) (pl nn : Nat → Nat) (ty va : Nat → Int) (code : Nat → zO) (need pc k kf : Nat) (ft : Int) : Prop := ∀ (d len : Nat) (Y : zMu) (ν : zNu) (r a b e : Nat → Int32) (m B : Nat) (hd : Int) (v : Value), (0 ≤ hd ∧ hd ≤ 1) → (B : Int) = 800 * (1 - hd) → CcY g Y → r 6 = zi (L : Int) → r 67 = zi hd → r 75 = zi (m : Int) → m ≤ k → MS pl nn ty va r k → ∃ r' a' b', zE code (zF zT0 (d + need)) pc [.ref 92, v] [] (zm len (Mm Y r a b e) ν) = some (.int (zi (-1)), zm len (Mm Y r' a' b' e) ν) ∧ r' 12 = zi ft ∧ r' 13 = zi (pl kf : Int) ∧ frM B r r' a a' b b'
theorem frM_tr {B : Nat} {r r' r'' a a' a'' b b' b'' : Nat → Int32} (h : frM B r r' a a' b b') (h2 : frM B r' r'' a' a'' b' b'') : frM B r r'' a a'' b b'' := ⟨fun i i7 i8 i9 i10 i12 i13 i75 i76 i78 => by rw [h2.1 i i7 i8 i9 i10 i12 i13 i75 i76 i78, h.1 i i7 i8 i9 i10 i12 i13 i75 i76 i78], fun i hi => by rw [h2.2.1 i hi, h.2.1 i hi], fun i hi => by rw [h2.2.2 i hi, h.2.2 i hi]⟩
theorem frM_wr {B : Nat} {r r' a b : Nat → Int32} {m : Nat} {cs ds : List Int32} (h : ∀ i, i ≠ 7 → i ≠ 8 → i ≠ 9 → i ≠ 10 → i ≠ 75 → r' i = r i) (hm : m + cs.length ≤ 800) (hn : m + ds.length ≤ 800) : frM B r r' a (wrL a (B + m) cs) b (wrL b (B + m) ds) := ⟨fun i i7 i8 i9 i10 _ _ i75 _ _ => h i i7 i8 i9 i10 i75, fun i hi => by
  rcases hi with hi | hi
  · exact wrL_lo _ _ _ _ (by omega)
  · exact wrL_hi _ _ _ _ (by omega), fun i hi => by
  rcases hi with hi | hi
  · exact wrL_lo _ _ _ _ (by omega)
  · exact wrL_hi _ _ _ _ (by omega)⟩
theorem frM_r {B : Nat} {r r' a b : Nat → Int32} (h : ∀ i, i ≠ 7 → i ≠ 8 → i ≠ 9 → i ≠ 10 → i ≠ 12 → i ≠ 13 → i ≠ 75 → i ≠ 76 → i ≠ 78 → r' i = r i) : frM B r r' a a b b := ⟨h, fun _ _ => rfl, fun _ _ => rfl⟩
section LOOPS
variable {g : Nat → Int} {L K : Nat} {pl nn : Nat → Nat} {ty va : Nat → Int}
theorem M_sg (S : Strm g L K pl nn ty va) {k : Nat} (hk : k ≤ K) {r : Nat → Int32} (hM : MS pl nn ty va r k) (d len : Nat) (Y : zMu) (ν : zNu) (a b e : Nat → Int32) {c : Int} (hc : 40 ≤ c ∧ c ≤ 63) : zF zT0 (d + 1) 205 [.ref 92, .int (zi c)] (zm len (Mm Y r a b e) ν) = some (.int (zb (kd ty va k = c)), zm len (Mm Y r a b e) ν) := by
  obtain ⟨x9, x10, n1, n2, n3⟩ := MS_n S hk hM
  exact F_isSg d len (Mm Y r a b e) ν n1 n2 n3 hc
theorem M_wd (S : Strm g L K pl nn ty va) {k : Nat} (hk : k ≤ K) {r : Nat → Int32} (hM : MS pl nn ty va r k) (d len : Nat) (Y : zMu) (ν : zNu) (a b e : Nat → Int32) {w : Int} (y : Int) (hc : (0 ≤ w ∧ w ≤ 4 ∧ y = 128 + w) ∨ (11 ≤ w ∧ w ≤ 20 ∧ y = 122 + w)) : zF zT0 (d + 1) 204 [.ref 92, .int (zi w)] (zm len (Mm Y r a b e) ν) = some (.int (zb (kd ty va k = y)), zm len (Mm Y r a b e) ν) := by
  obtain ⟨x9, x10, n1, n2, n3⟩ := MS_n S hk hM
  exact F_isWd d len (Mm Y r a b e) ν n1 n2 n3 hc
theorem M_fails (S : Strm g L K pl nn ty va) {k : Nat} {r : Nat → Int32} (hM : MS pl nn ty va r k) (d len : Nat) (Y : zMu) (ν : zNu) (a b e : Nat → Int32) (x : Int) : ∃ r', zF zT0 (d + 2) 203 [.ref 92, .int (zi x)] (zm len (Mm Y r a b e) ν) = some (.int (zi (-1)), zm len (Mm Y r' a b e) ν) ∧ r' 12 = zi x ∧ r' 13 = zi (pl k : Int) ∧ ∀ i, i ≠ 12 → i ≠ 13 → r' i = r i :=
  ⟨_, F_fails d len ν Y r a b e (zi x), rfl, hM.2.1, fun i i12 i13 => by rw [upd_ne _ _ i13, upd_ne _ _ i12]⟩
/-- a divisor, the class's -/
theorem div_c1 (S : Strm g L K pl nn ty va) (hL : L ≤ 800) (k : Nat) (hk : k < K) (h2 : kd ty va k = 2) (hv : 1 ≤ va k ∧ va k ≤ 9999) : PC K pl ty va 92 [.ref 57] 3 k (k + 1) [(0, va k)] := by
  have hKL := S.2.1.2.2.2
  intro D len X ν c q f m hD hX e5 hm
  obtain ⟨D, rfl⟩ : ∃ D', D = D' + 3 := ⟨D - 3, by omega⟩
  have t2 := ty_2 S hk h2
  have A := S_kind (Nat.le_of_lt hk) (by omega) (D + 1) len hX ν c q f m
  have B := S_val (Nat.le_of_lt hk) (by omega) (by omega) (D + 1) len hX ν c q f m
  have C := S_write (D + 1) len X ν c q f (k := k) (m := m) (by omega) (zi (va k))
  have E := S_move hk (by omega) (D + 1) len X ν c q (upd f m (zi (va k))) e5 (m + 1)
  rw [h2] at A
  rw [B_X7_readDivisor]
  simp (disch := omega) only [A, B_X7_readDivisor_7, B, B_X7_readDivisor_27, B_X7_readDivisor_47, C, B_X7_readDivisor_50, E, B_X7_readDivisor_57, zbi_some, zbl_some, zbv_some, zbi_none, zbl_none, zbv_none, zbi_ite, zbl_ite, zbv_ite, zbZ, zbO, zc_lt, zc_le, zc_ge, zc_gt, zc_eq, zk0, zk1, zk2, zk3, zk4, zk5, zk6, zk7, zk8, zk9, zk10, zk11, zk12, zk14, zk15, zk16, zk17, zk19, zk20, zk21, zk24, zk25, zk30, zk32, zk36, zk40, zk45, zk50, zk64, zk97, zk99, zk100, zk102, zk122, zk128, zk255, zk800, zk801, zk900, zk999, zk1000, zk1997, zk9999, zk10000, zk100000, zk99999, zk9999999, zk999999999, zk2147483647, zlc0, zlc1, zlc2, zlc3, zlc4, zlc23, zlc99, zlc100, zlc9999999, zlc999999999999, zlc1073741824, zi_neg, zi_add, zi_sub, zi_mul, zl_neg, zl_add, zl_sub, zl_mul, zi_toInt, zi_nat, zi_le, zi_lt, zi_eq, zl_le, zl_lt, zl_eq, zl_toInt, zl_of32, zi_of64, zi_div, zl_div, zmodI, ↓reduceIte, zTle, zFle, zTlt, zFlt, zTeq, zFeq, if_true, if_false, and_self, and_true, true_and, and_false, false_and, or_self, or_true, true_or, or_false, false_or, not_true_eq_false, not_false_eq_true, zcastA, zcastL, znatC, zab, Int.reduceAdd, Int.reduceSub, Int.reduceMul, Int.reduceNeg, Int.reduceToNat, Nat.reduceAdd]
  rfl
theorem div_c2 (S : Strm g L K pl nn ty va) (hL : L ≤ 800) (k : Nat) (hk : k < K) (h2 : kd ty va k = 2) (hv : va k = 0) : PCF K pl ty va 92 [.ref 57] 3 k k 2 := by
  have hKL := S.2.1.2.2.2
  intro D len X ν c q f m hD hX e5 hm
  obtain ⟨D, rfl⟩ : ∃ D', D = D' + 3 := ⟨D - 3, by omega⟩
  have t2 := ty_2 S hk h2
  have A := S_kind (Nat.le_of_lt hk) (by omega) (D + 1) len hX ν c q f m
  have B := S_val (Nat.le_of_lt hk) (by omega) (by omega) (D + 1) len hX ν c q f m
  obtain ⟨c', q', f', C, C1⟩ := S_fail (Nat.le_of_lt hk) (by omega) (D + 1) len hX ν c q f m 2
  rw [h2] at A
  rw [hv] at B
  refine ⟨c', q', f', ?_, C1⟩
  rw [B_X7_readDivisor]
  simp (disch := omega) only [A, B_X7_readDivisor_7, B, B_X7_readDivisor_27, C, B_X7_readDivisor_38, zbi_some, zbl_some, zbv_some, zbi_none, zbl_none, zbv_none, zbi_ite, zbl_ite, zbv_ite, zbZ, zbO, zc_lt, zc_le, zc_ge, zc_gt, zc_eq, zk0, zk1, zk2, zk3, zk4, zk5, zk6, zk7, zk8, zk9, zk10, zk11, zk12, zk14, zk15, zk16, zk17, zk19, zk20, zk21, zk24, zk25, zk30, zk32, zk36, zk40, zk45, zk50, zk64, zk97, zk99, zk100, zk102, zk122, zk128, zk255, zk800, zk801, zk900, zk999, zk1000, zk1997, zk9999, zk10000, zk100000, zk99999, zk9999999, zk999999999, zk2147483647, zlc0, zlc1, zlc2, zlc3, zlc4, zlc23, zlc99, zlc100, zlc9999999, zlc999999999999, zlc1073741824, zi_neg, zi_add, zi_sub, zi_mul, zl_neg, zl_add, zl_sub, zl_mul, zi_toInt, zi_nat, zi_le, zi_lt, zi_eq, zl_le, zl_lt, zl_eq, zl_toInt, zl_of32, zi_of64, zi_div, zl_div, zmodI, ↓reduceIte, zTle, zFle, zTlt, zFlt, zTeq, zFeq, if_true, if_false, and_self, and_true, true_and, and_false, false_and, or_self, or_true, true_or, or_false, false_or, not_true_eq_false, not_false_eq_true, zcastA, zcastL, znatC, zab, Int.reduceAdd, Int.reduceSub, Int.reduceMul, Int.reduceNeg, Int.reduceToNat, Nat.reduceAdd]
theorem div_c3 (S : Strm g L K pl nn ty va) (hL : L ≤ 800) (k : Nat) (hk : k ≤ K) (h2 : kd ty va k ≠ 2) : PCF K pl ty va 92 [.ref 57] 3 k k 1 := by
  have hKL := S.2.1.2.2.2
  have xb : 0 ≤ kd ty va k ∧ kd ty va k ≤ 142 := by have := (kd_c S hk).1; unfold Kc at this; omega
  intro D len X ν c q f m hD hX e5 hm
  obtain ⟨D, rfl⟩ : ∃ D', D = D' + 3 := ⟨D - 3, by omega⟩
  have A := S_kind hk (by omega) (D + 1) len hX ν c q f m
  obtain ⟨c', q', f', C, C1⟩ := S_fail hk (by omega) (D + 1) len hX ν c q f m 1
  refine ⟨c', q', f', ?_, C1⟩
  rw [B_X7_readDivisor]
  simp (disch := omega) only [A, B_X7_readDivisor_7, h2, C, B_X7_readDivisor_19, zbi_some, zbl_some, zbv_some, zbi_none, zbl_none, zbv_none, zbi_ite, zbl_ite, zbv_ite, zbZ, zbO, zc_lt, zc_le, zc_ge, zc_gt, zc_eq, zk0, zk1, zk2, zk3, zk4, zk5, zk6, zk7, zk8, zk9, zk10, zk11, zk12, zk14, zk15, zk16, zk17, zk19, zk20, zk21, zk24, zk25, zk30, zk32, zk36, zk40, zk45, zk50, zk64, zk97, zk99, zk100, zk102, zk122, zk128, zk255, zk800, zk801, zk900, zk999, zk1000, zk1997, zk9999, zk10000, zk100000, zk99999, zk9999999, zk999999999, zk2147483647, zlc0, zlc1, zlc2, zlc3, zlc4, zlc23, zlc99, zlc100, zlc9999999, zlc999999999999, zlc1073741824, zi_neg, zi_add, zi_sub, zi_mul, zl_neg, zl_add, zl_sub, zl_mul, zi_toInt, zi_nat, zi_le, zi_lt, zi_eq, zl_le, zl_lt, zl_eq, zl_toInt, zl_of32, zi_of64, zi_div, zl_div, zmodI, ↓reduceIte, zTle, zFle, zTlt, zFlt, zTeq, zFeq, if_true, if_false, and_self, and_true, true_and, and_false, false_and, or_self, or_true, true_or, or_false, false_or, not_true_eq_false, not_false_eq_true, zcastA, zcastL, znatC, zab, Int.reduceAdd, Int.reduceSub, Int.reduceMul, Int.reduceNeg, Int.reduceToNat, Nat.reduceAdd]
theorem pr_ok (S : Strm g L K pl nn ty va) (hL : L ≤ 800) (hg : ∀ i, 0 ≤ g i ∧ g i ≤ 255) : ∀ n k : Nat, K - k ≤ n → k ≤ K → (∃ (k' : Nat) (cs : List (Int × Int)), (k ≤ k' ∧ k' ≤ K ∧ k + cs.length ≤ k') ∧ (kd ty va k' ≠ 42 ∧ kd ty va k' ≠ 47) ∧ TailT cs ∧ PRC K pl ty va k k' cs ∧ LM g L pl nn ty va zc_X12_readProduct 4 10 k k' cs) ∨ ∃ (ft : Int) (kf : Nat), PRCF K pl ty va k kf ft ∧ LMF g L pl nn ty va zc_X12_readProduct 4 10 k kf ft := by
  have hKL := S.2.1.2.2.2
  intro n
  induction n with
  | zero =>
    intro k hn hk
    have : k = K := by omega
    subst this
    have kz := (kd_c S hk).2.mpr rfl
    refine Or.inl ⟨k, [], by exact ⟨Nat.le_refl _, Nat.le_refl _, Nat.le_refl _⟩, by rw [kz]; decide, TailT_nil, fun D len X ν c q f m w i v3 v4 hD hX e5 hm hw hi => ⟨i, v3, v4, hi, rfl⟩, fun d len Y ν r a b e m B hd v hhd hB hY e6 e67 e75 hm hM => ⟨r, ?_, hM, e75, fun _ _ _ _ _ _ => rfl⟩⟩
    have s1 := M_sg S hk hM (d + 3) len Y ν a b e (c := 42) (by decide)
    have s2 := M_sg S hk hM (d + 3) len Y ν a b e (c := 47) (by decide)
    rw [kz] at s1 s2
    rw [B_X12_readProduct_10]
    simp (disch := omega) only [s1, s2, zbF, zq42, zq47, B_X12_readProduct_16, B_X12_readProduct_25, zbi_some, zbl_some, zbv_some, zbi_none, zbl_none, zbv_none, zbi_ite, zbl_ite, zbv_ite, zbZ, zbO, zc_lt, zc_le, zc_ge, zc_gt, zc_eq, zk0, zk1, zk2, zk3, zk4, zk5, zk6, zk7, zk8, zk9, zk10, zk11, zk12, zk14, zk15, zk16, zk17, zk19, zk20, zk21, zk24, zk25, zk30, zk32, zk36, zk40, zk45, zk50, zk64, zk97, zk99, zk100, zk102, zk122, zk128, zk255, zk800, zk801, zk900, zk999, zk1000, zk1997, zk9999, zk10000, zk100000, zk99999, zk9999999, zk999999999, zk2147483647, zlc0, zlc1, zlc2, zlc3, zlc4, zlc23, zlc99, zlc100, zlc9999999, zlc999999999999, zlc1073741824, zi_neg, zi_add, zi_sub, zi_mul, zl_neg, zl_add, zl_sub, zl_mul, zi_toInt, zi_nat, zi_le, zi_lt, zi_eq, zl_le, zl_lt, zl_eq, zl_toInt, zl_of32, zi_of64, zi_div, zl_div, zmodI, ↓reduceIte, zTle, zFle, zTlt, zFlt, zTeq, zFeq, if_true, if_false, and_self, and_true, true_and, and_false, false_and, or_self, or_true, true_or, or_false, false_or, not_true_eq_false, not_false_eq_true, zcastA, zcastL, znatC, zab, Int.reduceAdd, Int.reduceSub, Int.reduceMul, Int.reduceNeg, Int.reduceToNat, Nat.reduceAdd]
    rfl
  | succ n ih =>
    intro k hn hk
    by_cases hne : kd ty va k ≠ 42 ∧ kd ty va k ≠ 47
    · obtain ⟨h42, h47⟩ := hne
      refine Or.inl ⟨k, [], by exact ⟨Nat.le_refl _, hk, Nat.le_refl _⟩, ⟨h42, h47⟩, TailT_nil, fun D len X ν c q f m w i v3 v4 hD hX e5 hm hw hi => ⟨i, v3, v4, hi, rfl⟩, fun d len Y ν r a b e m B hd v hhd hB hY e6 e67 e75 hm hM => ⟨r, ?_, hM, e75, fun _ _ _ _ _ _ => rfl⟩⟩
      have s1 := M_sg S hk hM (d + 3) len Y ν a b e (c := 42) (by decide)
      have s2 := M_sg S hk hM (d + 3) len Y ν a b e (c := 47) (by decide)
      rw [B_X12_readProduct_10]
      simp (disch := omega) only [s1, s2, h42, h47, zbF, zq42, zq47, B_X12_readProduct_16, B_X12_readProduct_25, zbi_some, zbl_some, zbv_some, zbi_none, zbl_none, zbv_none, zbi_ite, zbl_ite, zbv_ite, zbZ, zbO, zc_lt, zc_le, zc_ge, zc_gt, zc_eq, zk0, zk1, zk2, zk3, zk4, zk5, zk6, zk7, zk8, zk9, zk10, zk11, zk12, zk14, zk15, zk16, zk17, zk19, zk20, zk21, zk24, zk25, zk30, zk32, zk36, zk40, zk45, zk50, zk64, zk97, zk99, zk100, zk102, zk122, zk128, zk255, zk800, zk801, zk900, zk999, zk1000, zk1997, zk9999, zk10000, zk100000, zk99999, zk9999999, zk999999999, zk2147483647, zlc0, zlc1, zlc2, zlc3, zlc4, zlc23, zlc99, zlc100, zlc9999999, zlc999999999999, zlc1073741824, zi_neg, zi_add, zi_sub, zi_mul, zl_neg, zl_add, zl_sub, zl_mul, zi_toInt, zi_nat, zi_le, zi_lt, zi_eq, zl_le, zl_lt, zl_eq, zl_toInt, zl_of32, zi_of64, zi_div, zl_div, zmodI, ↓reduceIte, zTle, zFle, zTlt, zFlt, zTeq, zFeq, if_true, if_false, and_self, and_true, true_and, and_false, false_and, or_self, or_true, true_or, or_false, false_or, not_true_eq_false, not_false_eq_true, zcastA, zcastL, znatC, zab, Int.reduceAdd, Int.reduceSub, Int.reduceMul, Int.reduceNeg, Int.reduceToNat, Nat.reduceAdd]
      rfl
    have hkK : k < K := by
      rcases Nat.lt_or_ge k K with z | z
      · exact z
      · have := (kd_c S hk).2.mpr (by omega)
        rw [this] at hne
        exact absurd ⟨by decide, by decide⟩ hne
    have step : ∀ (o x : Int) (p : Int × Int), ((x = 42 ∧ o = 4) ∨ (x = 47 ∧ o = 5)) → kd ty va k = x → k + 1 < K → (∀ (h : Nat) (T : Nat → Nat), h ≤ 62 → ∃ T', RunL [p] h T (h + 1) T' ∧ (∀ i, i < h → T' i = T i) ∧ (o = 5 → T' h = 1)) → (∀ (D len : Nat) (X : zMu) (ν : zNu) (c q f : Nat → Int32) (m : Nat) (w : Int) (i : Nat) (v3 v4 : Value), 3 ≤ D → CcX K pl ty va X → c 5 = zi ((K : Int) + 1) → m ≤ k → (0 ≤ w ∧ w ≤ 45) → i + 1 ≤ k → ∃ v3' v4' : Value, zE zc_X7_readSum (zF zT0 D) 13 [.ref 57, .int (zi w), .int (zi (i : Int)), v3, v4] [] (zm len (ST X c q k m f) ν) = zE zc_X7_readSum (zF zT0 D) 13 [.ref 57, .int (zi w), .int (zi ((i + 1 : Nat) : Int)), v3', v4'] [] (zm len (ST X c q (k + 1 + 1) (m + 1 + 1) (upd (upd f m (opc p)) (m + 1) (opc (o, 0)))) ν)) → (∀ (d len : Nat) (Y : zMu) (ν : zNu) (r a b e : Nat → Int32) (m B : Nat) (hd : Int) (v : Value), (0 ≤ hd ∧ hd ≤ 1) → (B : Int) = 800 * (1 - hd) → CcY g Y → r 6 = zi (L : Int) → r 67 = zi hd → r 75 = zi (m : Int) → m ≤ k → MS pl nn ty va r k → ∃ (r' : Nat → Int32) (v' : Value), zE zc_X12_readProduct (zF zT0 (d + 4)) 10 [.ref 92, v] [] (zm len (Mm Y r a b e) ν) = zE zc_X12_readProduct (zF zT0 (d + 4)) 10 [.ref 92, v'] [] (zm len (Mm Y r' (upd (upd a (B + m) (opo p)) (B + (m + 1)) (opo (o, 0))) (upd (upd b (B + m) (opa p)) (B + (m + 1)) (opa (o, 0))) e) ν) ∧ MS pl nn ty va r' (k + 1 + 1) ∧ r' 75 = zi ((m + 1 + 1 : Nat) : Int) ∧ ∀ i, i ≠ 7 → i ≠ 8 → i ≠ 9 → i ≠ 10 → i ≠ 75 → r' i = r i) → (∃ (k' : Nat) (cs : List (Int × Int)), (k ≤ k' ∧ k' ≤ K ∧ k + cs.length ≤ k') ∧ (kd ty va k' ≠ 42 ∧ kd ty va k' ≠ 47) ∧ TailT cs ∧ PRC K pl ty va k k' cs ∧ LM g L pl nn ty va zc_X12_readProduct 4 10 k k' cs) ∨ ∃ (ft : Int) (kf : Nat), PRCF K pl ty va k kf ft ∧ LMF g L pl nn ty va zc_X12_readProduct 4 10 k kf ft := by
      intro o x p hx hxk hk1 hT hC hMo
      rcases ih (k + 1 + 1) (by omega) (by omega) with ⟨k', cs, ⟨l1, l2, l3⟩, hkd, hTc, hPC, hPM⟩ | ⟨ft, kf, hPC, hPM⟩
      · refine Or.inl ⟨k', p :: (o, 0) :: cs, ⟨by omega, l2, by show k + (cs.length + 1 + 1) ≤ k'; omega⟩, hkd, TailT_app (TailT_op hT (by omega)) hTc, fun D len X ν c q f m w i v3 v4 hD hX e5 hm hw hi => ?_, fun d len Y ν r a b e m B hd v hhd hB hY e6 e67 e75 hm hM => ?_⟩
        · obtain ⟨v3', v4', E1⟩ := hC D len X ν c q f m w i v3 v4 hD hX e5 hm hw hi
          obtain ⟨i', u3, u4, hi', E2⟩ := hPC D len X ν c q (upd (upd f m (opc p)) (m + 1) (opc (o, 0))) (m + 1 + 1) w (i + 1) v3' v4' hD hX e5 (by omega) hw (by omega)
          refine ⟨i', u3, u4, hi', E1.trans (E2.trans ?_)⟩
          rw [show m + 1 + 1 + cs.length = m + (p :: (o, 0) :: cs).length by show _ = m + (cs.length + 1 + 1); omega]
          rfl
        · obtain ⟨r1, v', E1, R1, R2, R3⟩ := hMo d len Y ν r a b e m B hd v hhd hB hY e6 e67 e75 hm hM
          obtain ⟨r2, E2, Q1, Q2, Q3⟩ := hPM d len Y ν r1 (upd (upd a (B + m) (opo p)) (B + (m + 1)) (opo (o, 0))) (upd (upd b (B + m) (opa p)) (B + (m + 1)) (opa (o, 0))) e (m + 1 + 1) B hd v' hhd hB hY (by rw [R3 6 (by decide) (by decide) (by decide) (by decide) (by decide)]; exact e6) (by rw [R3 67 (by decide) (by decide) (by decide) (by decide) (by decide)]; exact e67) R2 (by omega) R1
          refine ⟨r2, E1.trans (E2.trans ?_), Q1, ?_, fun i i7 i8 i9 i10 i75 => by rw [Q3 i i7 i8 i9 i10 i75, R3 i i7 i8 i9 i10 i75]⟩
          · rfl
          · rw [Q2, show m + 1 + 1 + cs.length = m + (p :: (o, 0) :: cs).length by show _ = m + (cs.length + 1 + 1); omega]
      · refine Or.inr ⟨ft, kf, fun D len X ν c q f m w i v3 v4 hD hX e5 hm hw hi => ?_, fun d len Y ν r a b e m B hd v hhd hB hY e6 e67 e75 hm hM => ?_⟩
        · obtain ⟨v3', v4', E1⟩ := hC D len X ν c q f m w i v3 v4 hD hX e5 hm hw hi
          obtain ⟨c', q', f', E2, E3⟩ := hPC D len X ν c q (upd (upd f m (opc p)) (m + 1) (opc (o, 0))) (m + 1 + 1) w (i + 1) v3' v4' hD hX e5 (by omega) hw (by omega)
          exact ⟨c', q', f', E1.trans E2, E3⟩
        · obtain ⟨r1, v', E1, R1, R2, R3⟩ := hMo d len Y ν r a b e m B hd v hhd hB hY e6 e67 e75 hm hM
          obtain ⟨r2, a2, b2, E2, Q1, Q2, Q3⟩ := hPM d len Y ν r1 (upd (upd a (B + m) (opo p)) (B + (m + 1)) (opo (o, 0))) (upd (upd b (B + m) (opa p)) (B + (m + 1)) (opa (o, 0))) e (m + 1 + 1) B hd v' hhd hB hY (by rw [R3 6 (by decide) (by decide) (by decide) (by decide) (by decide)]; exact e6) (by rw [R3 67 (by decide) (by decide) (by decide) (by decide) (by decide)]; exact e67) R2 (by omega) R1
          exact ⟨r2, a2, b2, E1.trans E2, Q1, Q2, frM_tr (frM_wr (cs := [opo p, opo (o, 0)]) (ds := [opa p, opa (o, 0)]) (m := m) R3 (by show m + 2 ≤ 800; omega) (by show m + 2 ≤ 800; omega)) Q3⟩
    have hk1 : k + 1 ≤ K := hkK
    by_cases c42 : kd ty va k = 42
    · rcases unit_ok S hL hg (k + 1) hk1 with ⟨p, hpK, hp, _, hPC, hPM⟩ | ⟨_, hPC, hPM⟩
      · refine step 4 42 p (Or.inl ⟨rfl, rfl⟩) c42 hpK (fun h T hh => ?_) (fun D len X ν c q f m w i v3 v4 hD hX e5 hm hw hi => ?_) (fun d len Y ν r a b e m B hd v hhd hB hY e6 e67 e75 hm hM => ?_)
        · obtain ⟨T', t1, t2⟩ := unit_T hp h T hh
          exact ⟨T', t1, t2, fun z => absurd z (by decide)⟩
        · obtain ⟨D, rfl⟩ : ∃ D', D = D' + 3 := ⟨D - 3, by omega⟩
          have A := S_kind hk (by omega) (D + 2) len hX ν c q f m
          have E := S_move hkK (by omega) (D + 2) len X ν c q f e5 m
          have U : zF zT0 (D + 3) 91 [.ref 57] (zm len (ST X c q (k + 1) m f) ν) = some (.int (zi 1), zm len (ST X c q (k + 1 + 1) (m + 1) (upd f m (opc p))) ν) := hPC (D + 3) len X ν c q f m hD hX e5 (by omega)
          have W : zF zT0 (D + 2 + 1) 93 [.ref 57, .int (zi (-42))] (zm len (ST X c q (k + 1 + 1) (m + 1) (upd f m (opc p))) ν) = some (.null, zm len (ST X c q (k + 1 + 1) (m + 1 + 1) (upd (upd f m (opc p)) (m + 1) (opc (4, 0)))) ν) := S_write (D + 2) len X ν c q (upd f m (opc p)) (k := k + 1 + 1) (m := m + 1) (by omega) (zi (-42))
          rw [c42] at A
          refine ⟨.int (zi 42), .int (zi 0), ?_⟩
          rw [B_X7_readSum_13]
          simp (disch := omega) only [zq43, zq45, zq42, zq47, A, B_X7_readSum_27, B_X7_readSum_55, E, B_X7_readSum_62, B_X7_readSum_79, B_X7_readSum_96, B_X7_readSum_106, U, B_X7_readSum_127, B_X7_readSum_132, W, B_X7_readSum_143, zbi_some, zbl_some, zbv_some, zbi_none, zbl_none, zbv_none, zbi_ite, zbl_ite, zbv_ite, zbZ, zbO, zc_lt, zc_le, zc_ge, zc_gt, zc_eq, zk0, zk1, zk2, zk3, zk4, zk5, zk6, zk7, zk8, zk9, zk10, zk11, zk12, zk14, zk15, zk16, zk17, zk19, zk20, zk21, zk24, zk25, zk30, zk32, zk36, zk40, zk45, zk50, zk64, zk97, zk99, zk100, zk102, zk122, zk128, zk255, zk800, zk801, zk900, zk999, zk1000, zk1997, zk9999, zk10000, zk100000, zk99999, zk9999999, zk999999999, zk2147483647, zlc0, zlc1, zlc2, zlc3, zlc4, zlc23, zlc99, zlc100, zlc9999999, zlc999999999999, zlc1073741824, zi_neg, zi_add, zi_sub, zi_mul, zl_neg, zl_add, zl_sub, zl_mul, zi_toInt, zi_nat, zi_le, zi_lt, zi_eq, zl_le, zl_lt, zl_eq, zl_toInt, zl_of32, zi_of64, zi_div, zl_div, zmodI, ↓reduceIte, zTle, zFle, zTlt, zFlt, zTeq, zFeq, if_true, if_false, and_self, and_true, true_and, and_false, false_and, or_self, or_true, true_or, or_false, false_or, not_true_eq_false, not_false_eq_true, zcastA, zcastL, znatC, zab, Int.reduceAdd, Int.reduceSub, Int.reduceMul, Int.reduceNeg, Int.reduceToNat, Nat.reduceAdd]
        · obtain ⟨r1, N, R1, R2⟩ := F_nextM S hL hg (d + 1) len Y ν r a b e hY e6 hkK hM.1
          obtain ⟨r2, U, Q1, Q2, Q3⟩ := hPM d len Y ν r1 a b e m B hd hhd hB hY (by rw [R2 6 (by decide) (by decide) (by decide) (by decide)]; exact e6) (by rw [R2 67 (by decide) (by decide) (by decide) (by decide)]; exact e67) (by rw [R2 75 (by decide) (by decide) (by decide) (by decide)]; exact e75) (by omega) R1
          have U : zF zT0 (d + 4) 254 [.ref 92] (zm len (Mm Y r1 a b e) ν) = some (.int (zi 0), zm len (Mm Y r2 (upd a (B + m) (opo p)) (upd b (B + m) (opa p)) e) ν) := U
          have W := F_emit (d + 3) len ν Y r2 (upd a (B + m) (opo p)) (upd b (B + m) (opa p)) e (m := m + 1) (by omega) hhd hB (by rw [Q3 67 (by decide) (by decide) (by decide) (by decide) (by decide), R2 67 (by decide) (by decide) (by decide) (by decide)]; exact e67) Q2 (zi 4) (zi 0)
          have s1 := M_sg S hk hM (d + 3) len Y ν a b e (c := 42) (by decide)
          rw [c42] at s1
          refine ⟨upd r2 75 (zi (((m + 1 : Nat) : Int) + 1)), .int (zi 1), ?_, Q1, rfl, fun i i7 i8 i9 i10 i75 => by rw [upd_ne _ _ i75, Q3 i i7 i8 i9 i10 i75, R2 i i7 i8 i9 i10]⟩
          rw [B_X12_readProduct_10]
          simp (disch := omega) only [s1, zbT, zq42, B_X12_readProduct_16, B_X12_readProduct_28, B_X12_readProduct_34, N, B_X12_readProduct_39, B_X12_readProduct_57, B_X12_readProduct_74, U, B_X12_readProduct_78, B_X12_readProduct_94, W, B_X12_readProduct_98, zbi_some, zbl_some, zbv_some, zbi_none, zbl_none, zbv_none, zbi_ite, zbl_ite, zbv_ite, zbZ, zbO, zc_lt, zc_le, zc_ge, zc_gt, zc_eq, zk0, zk1, zk2, zk3, zk4, zk5, zk6, zk7, zk8, zk9, zk10, zk11, zk12, zk14, zk15, zk16, zk17, zk19, zk20, zk21, zk24, zk25, zk30, zk32, zk36, zk40, zk45, zk50, zk64, zk97, zk99, zk100, zk102, zk122, zk128, zk255, zk800, zk801, zk900, zk999, zk1000, zk1997, zk9999, zk10000, zk100000, zk99999, zk9999999, zk999999999, zk2147483647, zlc0, zlc1, zlc2, zlc3, zlc4, zlc23, zlc99, zlc100, zlc9999999, zlc999999999999, zlc1073741824, zi_neg, zi_add, zi_sub, zi_mul, zl_neg, zl_add, zl_sub, zl_mul, zi_toInt, zi_nat, zi_le, zi_lt, zi_eq, zl_le, zl_lt, zl_eq, zl_toInt, zl_of32, zi_of64, zi_div, zl_div, zmodI, ↓reduceIte, zTle, zFle, zTlt, zFlt, zTeq, zFeq, if_true, if_false, and_self, and_true, true_and, and_false, false_and, or_self, or_true, true_or, or_false, false_or, not_true_eq_false, not_false_eq_true, zcastA, zcastL, znatC, zab, Int.reduceAdd, Int.reduceSub, Int.reduceMul, Int.reduceNeg, Int.reduceToNat, Nat.reduceAdd]
          try rfl
      · refine Or.inr ⟨1, k + 1, fun D len X ν c q f m w i v3 v4 hD hX e5 hm hw hi => ?_, fun d len Y ν r a b e m B hd v hhd hB hY e6 e67 e75 hm hM => ?_⟩
        · obtain ⟨D, rfl⟩ : ∃ D', D = D' + 3 := ⟨D - 3, by omega⟩
          have A := S_kind hk (by omega) (D + 2) len hX ν c q f m
          have E := S_move hkK (by omega) (D + 2) len X ν c q f e5 m
          obtain ⟨c', q', f', U, U1⟩ := hPC (D + 3) len X ν c q f m hD hX e5 (by omega)
          rw [c42] at A
          refine ⟨c', q', f', ?_, U1⟩
          rw [B_X7_readSum_13]
          simp (disch := omega) only [zq43, zq45, zq42, zq47, A, B_X7_readSum_27, B_X7_readSum_55, E, B_X7_readSum_62, B_X7_readSum_79, B_X7_readSum_96, B_X7_readSum_106, U, B_X7_readSum_127, zbi_some, zbl_some, zbv_some, zbi_none, zbl_none, zbv_none, zbi_ite, zbl_ite, zbv_ite, zbZ, zbO, zc_lt, zc_le, zc_ge, zc_gt, zc_eq, zk0, zk1, zk2, zk3, zk4, zk5, zk6, zk7, zk8, zk9, zk10, zk11, zk12, zk14, zk15, zk16, zk17, zk19, zk20, zk21, zk24, zk25, zk30, zk32, zk36, zk40, zk45, zk50, zk64, zk97, zk99, zk100, zk102, zk122, zk128, zk255, zk800, zk801, zk900, zk999, zk1000, zk1997, zk9999, zk10000, zk100000, zk99999, zk9999999, zk999999999, zk2147483647, zlc0, zlc1, zlc2, zlc3, zlc4, zlc23, zlc99, zlc100, zlc9999999, zlc999999999999, zlc1073741824, zi_neg, zi_add, zi_sub, zi_mul, zl_neg, zl_add, zl_sub, zl_mul, zi_toInt, zi_nat, zi_le, zi_lt, zi_eq, zl_le, zl_lt, zl_eq, zl_toInt, zl_of32, zi_of64, zi_div, zl_div, zmodI, ↓reduceIte, zTle, zFle, zTlt, zFlt, zTeq, zFeq, if_true, if_false, and_self, and_true, true_and, and_false, false_and, or_self, or_true, true_or, or_false, false_or, not_true_eq_false, not_false_eq_true, zcastA, zcastL, znatC, zab, Int.reduceAdd, Int.reduceSub, Int.reduceMul, Int.reduceNeg, Int.reduceToNat, Nat.reduceAdd]
        · obtain ⟨r1, N, R1, R2⟩ := F_nextM S hL hg (d + 1) len Y ν r a b e hY e6 hkK hM.1
          obtain ⟨r2, a2, b2, U, Q1, Q2, Q3⟩ := hPM d len Y ν r1 a b e m B hd hhd hB hY (by rw [R2 6 (by decide) (by decide) (by decide) (by decide)]; exact e6) (by rw [R2 67 (by decide) (by decide) (by decide) (by decide)]; exact e67) (by rw [R2 75 (by decide) (by decide) (by decide) (by decide)]; exact e75) (by omega) R1
          have s1 := M_sg S hk hM (d + 3) len Y ν a b e (c := 42) (by decide)
          rw [c42] at s1
          refine ⟨r2, a2, b2, ?_, Q1, Q2, frM_tr (frM_r (fun i i7 i8 i9 i10 _ _ _ _ _ => R2 i i7 i8 i9 i10)) Q3⟩
          rw [B_X12_readProduct_10]
          simp (disch := omega) only [s1, zbT, zq42, B_X12_readProduct_16, B_X12_readProduct_28, B_X12_readProduct_34, N, B_X12_readProduct_39, B_X12_readProduct_57, B_X12_readProduct_74, U, B_X12_readProduct_78, zbi_some, zbl_some, zbv_some, zbi_none, zbl_none, zbv_none, zbi_ite, zbl_ite, zbv_ite, zbZ, zbO, zc_lt, zc_le, zc_ge, zc_gt, zc_eq, zk0, zk1, zk2, zk3, zk4, zk5, zk6, zk7, zk8, zk9, zk10, zk11, zk12, zk14, zk15, zk16, zk17, zk19, zk20, zk21, zk24, zk25, zk30, zk32, zk36, zk40, zk45, zk50, zk64, zk97, zk99, zk100, zk102, zk122, zk128, zk255, zk800, zk801, zk900, zk999, zk1000, zk1997, zk9999, zk10000, zk100000, zk99999, zk9999999, zk999999999, zk2147483647, zlc0, zlc1, zlc2, zlc3, zlc4, zlc23, zlc99, zlc100, zlc9999999, zlc999999999999, zlc1073741824, zi_neg, zi_add, zi_sub, zi_mul, zl_neg, zl_add, zl_sub, zl_mul, zi_toInt, zi_nat, zi_le, zi_lt, zi_eq, zl_le, zl_lt, zl_eq, zl_toInt, zl_of32, zi_of64, zi_div, zl_div, zmodI, ↓reduceIte, zTle, zFle, zTlt, zFlt, zTeq, zFeq, if_true, if_false, and_self, and_true, true_and, and_false, false_and, or_self, or_true, true_or, or_false, false_or, not_true_eq_false, not_false_eq_true, zcastA, zcastL, znatC, zab, Int.reduceAdd, Int.reduceSub, Int.reduceMul, Int.reduceNeg, Int.reduceToNat, Nat.reduceAdd]
    · have c47 : kd ty va k = 47 := by
        by_cases z : kd ty va k = 47
        · exact z
        · exact absurd ⟨c42, z⟩ hne
      have cf : ∀ (ft : Int), PCF K pl ty va 92 [.ref 57] 3 (k + 1) (k + 1) ft → PRCF K pl ty va k (k + 1) ft := fun ft hPC D len X ν c q f m w i v3 v4 hD hX e5 hm hw hi => by
        obtain ⟨D, rfl⟩ : ∃ D', D = D' + 3 := ⟨D - 3, by omega⟩
        have A := S_kind hk (by omega) (D + 2) len hX ν c q f m
        have E := S_move hkK (by omega) (D + 2) len X ν c q f e5 m
        obtain ⟨c', q', f', U, U1⟩ := hPC (D + 3) len X ν c q f m hD hX e5 (by omega)
        rw [c47] at A
        refine ⟨c', q', f', ?_, U1⟩
        rw [B_X7_readSum_13]
        simp (disch := omega) only [zq43, zq45, zq42, zq47, A, B_X7_readSum_27, B_X7_readSum_55, E, B_X7_readSum_62, B_X7_readSum_79, B_X7_readSum_96, B_X7_readSum_106, U, B_X7_readSum_117, zbi_some, zbl_some, zbv_some, zbi_none, zbl_none, zbv_none, zbi_ite, zbl_ite, zbv_ite, zbZ, zbO, zc_lt, zc_le, zc_ge, zc_gt, zc_eq, zk0, zk1, zk2, zk3, zk4, zk5, zk6, zk7, zk8, zk9, zk10, zk11, zk12, zk14, zk15, zk16, zk17, zk19, zk20, zk21, zk24, zk25, zk30, zk32, zk36, zk40, zk45, zk50, zk64, zk97, zk99, zk100, zk102, zk122, zk128, zk255, zk800, zk801, zk900, zk999, zk1000, zk1997, zk9999, zk10000, zk100000, zk99999, zk9999999, zk999999999, zk2147483647, zlc0, zlc1, zlc2, zlc3, zlc4, zlc23, zlc99, zlc100, zlc9999999, zlc999999999999, zlc1073741824, zi_neg, zi_add, zi_sub, zi_mul, zl_neg, zl_add, zl_sub, zl_mul, zi_toInt, zi_nat, zi_le, zi_lt, zi_eq, zl_le, zl_lt, zl_eq, zl_toInt, zl_of32, zi_of64, zi_div, zl_div, zmodI, ↓reduceIte, zTle, zFle, zTlt, zFlt, zTeq, zFeq, if_true, if_false, and_self, and_true, true_and, and_false, false_and, or_self, or_true, true_or, or_false, false_or, not_true_eq_false, not_false_eq_true, zcastA, zcastL, znatC, zab, Int.reduceAdd, Int.reduceSub, Int.reduceMul, Int.reduceNeg, Int.reduceToNat, Nat.reduceAdd]
      by_cases c2 : kd ty va (k + 1) = 2
      · have hpK : k + 1 < K := by
          rcases Nat.lt_or_ge (k + 1) K with z | z
          · exact z
          · have := (kd_c S hk1).2.mpr (by omega)
            omega
        have vb : 0 ≤ va (k + 1) ∧ va (k + 1) ≤ 9999 := by have := (kd_c S hk1).1; unfold Kc at this; omega
        by_cases v0 : va (k + 1) = 0
        · refine Or.inr ⟨2, k + 1, cf 2 (div_c2 S hL (k + 1) hpK c2 v0), fun d len Y ν r a b e m B hd v hhd hB hY e6 e67 e75 hm hM => ?_⟩
          obtain ⟨r1, N, R1, R2⟩ := F_nextM S hL hg (d + 1) len Y ν r a b e hY e6 hkK hM.1
          obtain ⟨x9, x10, n1, n2, n3⟩ := MS_n S hk1 R1
          have n4 : x9 = 3 ∧ x10 = 0 := by unfold Mt at n1; omega
          obtain ⟨n4, n5⟩ := n4
          subst n4
          subst n5
          have n3 := n3 (by omega)
          obtain ⟨r2, U, Q1, Q2, Q3⟩ := M_fails S R1 (d + 2) len Y ν a b e 2
          have s1 := M_sg S hk hM (d + 3) len Y ν a b e (c := 42) (by decide)
          have s2 := M_sg S hk hM (d + 3) len Y ν a b e (c := 47) (by decide)
          rw [c47] at s1 s2
          refine ⟨r2, a, b, ?_, Q1, Q2, frM_r (fun i i7 i8 i9 i10 i12 i13 _ _ _ => by rw [Q3 i i12 i13, R2 i i7 i8 i9 i10])⟩
          rw [B_X12_readProduct_10]
          simp (disch := omega) only [s1, s2, zbT, zbF, zq42, zq47, B_X12_readProduct_16, B_X12_readProduct_25, B_X12_readProduct_28, B_X12_readProduct_34, N, B_X12_readProduct_39, zrw_s, n2, n3, B_X12_readProduct_57, U, B_X12_readProduct_73, zbi_some, zbl_some, zbv_some, zbi_none, zbl_none, zbv_none, zbi_ite, zbl_ite, zbv_ite, zbZ, zbO, zc_lt, zc_le, zc_ge, zc_gt, zc_eq, zk0, zk1, zk2, zk3, zk4, zk5, zk6, zk7, zk8, zk9, zk10, zk11, zk12, zk14, zk15, zk16, zk17, zk19, zk20, zk21, zk24, zk25, zk30, zk32, zk36, zk40, zk45, zk50, zk64, zk97, zk99, zk100, zk102, zk122, zk128, zk255, zk800, zk801, zk900, zk999, zk1000, zk1997, zk9999, zk10000, zk100000, zk99999, zk9999999, zk999999999, zk2147483647, zlc0, zlc1, zlc2, zlc3, zlc4, zlc23, zlc99, zlc100, zlc9999999, zlc999999999999, zlc1073741824, zi_neg, zi_add, zi_sub, zi_mul, zl_neg, zl_add, zl_sub, zl_mul, zi_toInt, zi_nat, zi_le, zi_lt, zi_eq, zl_le, zl_lt, zl_eq, zl_toInt, zl_of32, zi_of64, zi_div, zl_div, zmodI, ↓reduceIte, zTle, zFle, zTlt, zFlt, zTeq, zFeq, if_true, if_false, and_self, and_true, true_and, and_false, false_and, or_self, or_true, true_or, or_false, false_or, not_true_eq_false, not_false_eq_true, zcastA, zcastL, znatC, zab, Int.reduceAdd, Int.reduceSub, Int.reduceMul, Int.reduceNeg, Int.reduceToNat, Nat.reduceAdd]
        · have v1 : 1 ≤ va (k + 1) ∧ va (k + 1) ≤ 9999 := by omega
          have hPC := div_c1 S hL (k + 1) hpK c2 v1
          rcases unit_ok S hL hg (k + 1) hk1 with ⟨p, _, hp, hp2, _, hPM⟩ | ⟨z, _⟩
          · have hp2 := hp2 c2
            subst hp2
            refine step 5 47 (0, va (k + 1)) (Or.inr ⟨rfl, rfl⟩) c47 hpK (fun h T hh => ?_) (fun D len X ν c q f m w i v3 v4 hD hX e5 hm hw hi => ?_) (fun d len Y ν r a b e m B hd v hhd hB hY e6 e67 e75 hm hM => ?_)
            · obtain ⟨T', t1, t2, t3⟩ := div_T v1 h T hh
              exact ⟨T', t1, t2, fun _ => t3⟩
            · obtain ⟨D, rfl⟩ : ∃ D', D = D' + 3 := ⟨D - 3, by omega⟩
              have A := S_kind hk (by omega) (D + 2) len hX ν c q f m
              have E := S_move hkK (by omega) (D + 2) len X ν c q f e5 m
              have U : zF zT0 (D + 3) 92 [.ref 57] (zm len (ST X c q (k + 1) m f) ν) = some (.int (zi 1), zm len (ST X c q (k + 1 + 1) (m + 1) (upd f m (opc (0, va (k + 1))))) ν) := hPC (D + 3) len X ν c q f m hD hX e5 (by omega)
              have W : zF zT0 (D + 2 + 1) 93 [.ref 57, .int (zi (-47))] (zm len (ST X c q (k + 1 + 1) (m + 1) (upd f m (opc (0, va (k + 1))))) ν) = some (.null, zm len (ST X c q (k + 1 + 1) (m + 1 + 1) (upd (upd f m (opc (0, va (k + 1)))) (m + 1) (opc (5, 0)))) ν) := S_write (D + 2) len X ν c q (upd f m (opc (0, va (k + 1)))) (k := k + 1 + 1) (m := m + 1) (by omega) (zi (-47))
              rw [c47] at A
              refine ⟨.int (zi 47), .int (zi 0), ?_⟩
              rw [B_X7_readSum_13]
              simp (disch := omega) only [zq43, zq45, zq42, zq47, A, B_X7_readSum_27, B_X7_readSum_55, E, B_X7_readSum_62, B_X7_readSum_79, B_X7_readSum_96, B_X7_readSum_106, U, B_X7_readSum_117, B_X7_readSum_132, W, B_X7_readSum_143, zbi_some, zbl_some, zbv_some, zbi_none, zbl_none, zbv_none, zbi_ite, zbl_ite, zbv_ite, zbZ, zbO, zc_lt, zc_le, zc_ge, zc_gt, zc_eq, zk0, zk1, zk2, zk3, zk4, zk5, zk6, zk7, zk8, zk9, zk10, zk11, zk12, zk14, zk15, zk16, zk17, zk19, zk20, zk21, zk24, zk25, zk30, zk32, zk36, zk40, zk45, zk50, zk64, zk97, zk99, zk100, zk102, zk122, zk128, zk255, zk800, zk801, zk900, zk999, zk1000, zk1997, zk9999, zk10000, zk100000, zk99999, zk9999999, zk999999999, zk2147483647, zlc0, zlc1, zlc2, zlc3, zlc4, zlc23, zlc99, zlc100, zlc9999999, zlc999999999999, zlc1073741824, zi_neg, zi_add, zi_sub, zi_mul, zl_neg, zl_add, zl_sub, zl_mul, zi_toInt, zi_nat, zi_le, zi_lt, zi_eq, zl_le, zl_lt, zl_eq, zl_toInt, zl_of32, zi_of64, zi_div, zl_div, zmodI, ↓reduceIte, zTle, zFle, zTlt, zFlt, zTeq, zFeq, if_true, if_false, and_self, and_true, true_and, and_false, false_and, or_self, or_true, true_or, or_false, false_or, not_true_eq_false, not_false_eq_true, zcastA, zcastL, znatC, zab, Int.reduceAdd, Int.reduceSub, Int.reduceMul, Int.reduceNeg, Int.reduceToNat, Nat.reduceAdd]
            · obtain ⟨r1, N, R1, R2⟩ := F_nextM S hL hg (d + 1) len Y ν r a b e hY e6 hkK hM.1
              obtain ⟨x9, x10, n1, n2, n3⟩ := MS_n S hk1 R1
              have n4 : x9 = 3 ∧ x10 = va (k + 1) := by unfold Mt at n1; omega
              obtain ⟨n4, n5⟩ := n4
              subst n4
              subst n5
              have n3 := n3 (by omega)
              obtain ⟨r2, U, Q1, Q2, Q3⟩ := hPM d len Y ν r1 a b e m B hd hhd hB hY (by rw [R2 6 (by decide) (by decide) (by decide) (by decide)]; exact e6) (by rw [R2 67 (by decide) (by decide) (by decide) (by decide)]; exact e67) (by rw [R2 75 (by decide) (by decide) (by decide) (by decide)]; exact e75) (by omega) R1
              have U : zF zT0 (d + 4) 254 [.ref 92] (zm len (Mm Y r1 a b e) ν) = some (.int (zi 0), zm len (Mm Y r2 (upd a (B + m) (opo (0, va (k + 1)))) (upd b (B + m) (opa (0, va (k + 1)))) e) ν) := U
              have W := F_emit (d + 3) len ν Y r2 (upd a (B + m) (opo (0, va (k + 1)))) (upd b (B + m) (opa (0, va (k + 1)))) e (m := m + 1) (by omega) hhd hB (by rw [Q3 67 (by decide) (by decide) (by decide) (by decide) (by decide), R2 67 (by decide) (by decide) (by decide) (by decide)]; exact e67) Q2 (zi 5) (zi 0)
              have s1 := M_sg S hk hM (d + 3) len Y ν a b e (c := 42) (by decide)
              have s2 := M_sg S hk hM (d + 3) len Y ν a b e (c := 47) (by decide)
              rw [c47] at s1 s2
              refine ⟨upd r2 75 (zi (((m + 1 : Nat) : Int) + 1)), .int (zi 0), ?_, Q1, rfl, fun i i7 i8 i9 i10 i75 => by rw [upd_ne _ _ i75, Q3 i i7 i8 i9 i10 i75, R2 i i7 i8 i9 i10]⟩
              rw [B_X12_readProduct_10]
              simp (disch := omega) only [s1, s2, zbT, zbF, zq42, zq47, B_X12_readProduct_16, B_X12_readProduct_25, B_X12_readProduct_28, B_X12_readProduct_34, N, B_X12_readProduct_39, zrw_s, n2, n3, B_X12_readProduct_57, B_X12_readProduct_74, U, B_X12_readProduct_78, B_X12_readProduct_94, W, B_X12_readProduct_98, zbi_some, zbl_some, zbv_some, zbi_none, zbl_none, zbv_none, zbi_ite, zbl_ite, zbv_ite, zbZ, zbO, zc_lt, zc_le, zc_ge, zc_gt, zc_eq, zk0, zk1, zk2, zk3, zk4, zk5, zk6, zk7, zk8, zk9, zk10, zk11, zk12, zk14, zk15, zk16, zk17, zk19, zk20, zk21, zk24, zk25, zk30, zk32, zk36, zk40, zk45, zk50, zk64, zk97, zk99, zk100, zk102, zk122, zk128, zk255, zk800, zk801, zk900, zk999, zk1000, zk1997, zk9999, zk10000, zk100000, zk99999, zk9999999, zk999999999, zk2147483647, zlc0, zlc1, zlc2, zlc3, zlc4, zlc23, zlc99, zlc100, zlc9999999, zlc999999999999, zlc1073741824, zi_neg, zi_add, zi_sub, zi_mul, zl_neg, zl_add, zl_sub, zl_mul, zi_toInt, zi_nat, zi_le, zi_lt, zi_eq, zl_le, zl_lt, zl_eq, zl_toInt, zl_of32, zi_of64, zi_div, zl_div, zmodI, ↓reduceIte, zTle, zFle, zTlt, zFlt, zTeq, zFeq, if_true, if_false, and_self, and_true, true_and, and_false, false_and, or_self, or_true, true_or, or_false, false_or, not_true_eq_false, not_false_eq_true, zcastA, zcastL, znatC, zab, Int.reduceAdd, Int.reduceSub, Int.reduceMul, Int.reduceNeg, Int.reduceToNat, Nat.reduceAdd]
              try rfl
          · exact absurd c2 z.1
      · refine Or.inr ⟨1, k + 1, cf 1 (div_c3 S hL (k + 1) hk1 c2), fun d len Y ν r a b e m B hd v hhd hB hY e6 e67 e75 hm hM => ?_⟩
        obtain ⟨r1, N, R1, R2⟩ := F_nextM S hL hg (d + 1) len Y ν r a b e hY e6 hkK hM.1
        obtain ⟨x9, x10, n1, n2, n3⟩ := MS_n S hk1 R1
        have n4 : x9 ≠ 3 ∧ 0 ≤ x9 ∧ x9 ≤ 4 := by unfold Mt at n1; omega
        obtain ⟨n4, n5⟩ := n4
        obtain ⟨r2, U, Q1, Q2, Q3⟩ := M_fails S R1 (d + 2) len Y ν a b e 1
        have s1 := M_sg S hk hM (d + 3) len Y ν a b e (c := 42) (by decide)
        have s2 := M_sg S hk hM (d + 3) len Y ν a b e (c := 47) (by decide)
        rw [c47] at s1 s2
        refine ⟨r2, a, b, ?_, Q1, Q2, frM_r (fun i i7 i8 i9 i10 i12 i13 _ _ _ => by rw [Q3 i i12 i13, R2 i i7 i8 i9 i10])⟩
        rw [B_X12_readProduct_10]
        simp (disch := omega) only [s1, s2, zbT, zbF, zq42, zq47, B_X12_readProduct_16, B_X12_readProduct_25, B_X12_readProduct_28, B_X12_readProduct_34, N, B_X12_readProduct_39, zrw_s, n2, n4, U, B_X12_readProduct_56, zbi_some, zbl_some, zbv_some, zbi_none, zbl_none, zbv_none, zbi_ite, zbl_ite, zbv_ite, zbZ, zbO, zc_lt, zc_le, zc_ge, zc_gt, zc_eq, zk0, zk1, zk2, zk3, zk4, zk5, zk6, zk7, zk8, zk9, zk10, zk11, zk12, zk14, zk15, zk16, zk17, zk19, zk20, zk21, zk24, zk25, zk30, zk32, zk36, zk40, zk45, zk50, zk64, zk97, zk99, zk100, zk102, zk122, zk128, zk255, zk800, zk801, zk900, zk999, zk1000, zk1997, zk9999, zk10000, zk100000, zk99999, zk9999999, zk999999999, zk2147483647, zlc0, zlc1, zlc2, zlc3, zlc4, zlc23, zlc99, zlc100, zlc9999999, zlc999999999999, zlc1073741824, zi_neg, zi_add, zi_sub, zi_mul, zl_neg, zl_add, zl_sub, zl_mul, zi_toInt, zi_nat, zi_le, zi_lt, zi_eq, zl_le, zl_lt, zl_eq, zl_toInt, zl_of32, zi_of64, zi_div, zl_div, zmodI, ↓reduceIte, zTle, zFle, zTlt, zFlt, zTeq, zFeq, if_true, if_false, and_self, and_true, true_and, and_false, false_and, or_self, or_true, true_or, or_false, false_or, not_true_eq_false, not_false_eq_true, zcastA, zcastL, znatC, zab, Int.reduceAdd, Int.reduceSub, Int.reduceMul, Int.reduceNeg, Int.reduceToNat, Nat.reduceAdd]
end LOOPS

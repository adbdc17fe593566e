/-! RULES read: all GIVEs, both sides -/
abbrev Gv : Type := Int × List (Int × Int) × List (Int × Int)
def GX : List Gv → zMu → Nat → Nat → zMu
  | [], X, _, _ => X
  | x :: gl, X, n, m => GX gl (zup (zup (zup X 63 n (zi x.1)) 64 n (zi ((m + x.2.1.length : Nat) : Int))) 65 n (zi ((m + x.2.1.length + x.2.2.length : Nat) : Int))) (n + 1) (m + x.2.1.length + x.2.2.length)
def GY : List Gv → zMu → Nat → Nat → zMu
  | [], Y, _, _ => Y
  | x :: gl, Y, l, m => GY gl (zup (zup (zup (zup Y 140 l (zi (m : Int))) 141 l (zi ((m + x.2.1.length : Nat) : Int))) 139 l (zi x.1)) 142 l (zi ((m + x.2.1.length + x.2.2.length : Nat) : Int))) (l + 1) (m + x.2.1.length + x.2.2.length)
def gco : List Gv → List (Int × Int)
  | [] => []
  | x :: gl => (x.2.1 ++ x.2.2) ++ gco gl
def GV : List Gv → Prop
  | [] => True
  | x :: gl => ((0 ≤ x.1 ∧ x.1 ≤ 7) ∧ SumT x.2.1 ∧ (x.2.2 = [] ∨ CTo 0 x.2.2)) ∧ GV gl
def frYr (Y Y' : zMu) (l : Nat) : Prop := (∀ i, i ≠ 139 → i ≠ 140 → i ≠ 141 → i ≠ 142 → Y' i = Y i) ∧ ∀ i j, (j < l ∨ l + 16 ≤ j) → Y' i j = Y i j
theorem frYr_of {Y Y' : zMu} {l LB : Nat} (h : frY Y Y' l) (h1 : LB ≤ l) (h2 : l < LB + 16) : frYr Y Y' LB := ⟨h.1, fun i j hj => h.2 i j (by omega)⟩
theorem frYr_tr {Y Y' Y'' : zMu} {LB : Nat} (h : frYr Y Y' LB) (h2 : frYr Y' Y'' LB) : frYr Y Y'' LB := ⟨fun i i1 i2 i3 i4 => by rw [h2.1 i i1 i2 i3 i4, h.1 i i1 i2 i3 i4], fun i j hj => by rw [h2.2 i j hj, h.2 i j hj]⟩
def RCo (K : Nat) (pl : Nat → Nat) (ty va : Nat → Int) (n k : Nat) (gl : List Gv) : Prop := ∀ (D len : Nat) (X : zMu) (ν : zNu) (c q f : Nat → Int32) (m : Nat), 25 ≤ D → CcX K pl ty va X → c 5 = zi ((K : Int) + 1) → m ≤ k → q 6 = zi (n : Int) → ∃ x : Int32, zE zc_X7_read (zF zT0 D) 12 [.ref 57, .int (zi (n : Int))] [] (zm len (ST X c q k m f) ν) = zE zc_X7_read (zF zT0 D) 43 [.ref 57, .int x] [] (zm len (ST (GX gl X n m) c (upd q 6 (zi ((n + gl.length : Nat) : Int))) K (m + (gco gl).length) (wrL f m ((gco gl).map opc))) ν)
def RCF (K : Nat) (pl : Nat → Nat) (ty va : Nat → Int) (n k kf : Nat) (ft : Int) : Prop := ∀ (D len : Nat) (X : zMu) (ν : zNu) (c q f : Nat → Int32) (m : Nat), 25 ≤ D → CcX K pl ty va X → c 5 = zi ((K : Int) + 1) → m ≤ k → q 6 = zi (n : Int) → ∃ (X' : zMu) (c' q' f' : Nat → Int32), zE zc_X7_read (zF zT0 D) 12 [.ref 57, .int (zi (n : Int))] [] (zm len (ST X c q k m f) ν) = some (.int (zi 0), zm len (CM X' c' q' f') ν) ∧ c' 7 = zi ft ∧ c' 8 = zi (pl kf : Int) ∧ (∀ i, i ≠ 6 → i ≠ 7 → i ≠ 8 → c' i = c i) ∧ frQ q q' ∧ frX X X'
def RMo (g : Nat → Int) (L : Nat) (pl nn : Nat → Nat) (ty va : Nat → Int) (n k : Nat) (gl : List Gv) : Prop := ∀ (d len : Nat) (Y : zMu) (ν : zNu) (r a b e : Nat → Int32) (m B l : Nat) (hd : Int), (0 ≤ hd ∧ hd ≤ 1) → (B : Int) = 800 * (1 - hd) → (l : Int) = 16 * (1 - hd) → CcY g Y → r 6 = zi (L : Int) → r 67 = zi hd → r 75 = zi (m : Int) → MS pl nn ty va r k → r 76 = zi 0 → m ≤ k → ∃ r' e' : Nat → Int32, zE zc_X12_readRules (zF zT0 (d + 9)) 21 [.ref 92, .int (zi (n : Int))] [] (zm len (Mm Y r a b e) ν) = some (.int (zi ((n + gl.length : Nat) : Int)), zm len (Mm (GY gl Y (l + n) m) r' (wrL a (B + m) ((gco gl).map opo)) (wrL b (B + m) ((gco gl).map opa)) e') ν) ∧ frR r r'
def RMF (g : Nat → Int) (L : Nat) (pl nn : Nat → Nat) (ty va : Nat → Int) (n k kf : Nat) (ft : Int) : Prop := ∀ (d len : Nat) (Y : zMu) (ν : zNu) (r a b e : Nat → Int32) (m B l : Nat) (hd : Int), (0 ≤ hd ∧ hd ≤ 1) → (B : Int) = 800 * (1 - hd) → (l : Int) = 16 * (1 - hd) → CcY g Y → r 6 = zi (L : Int) → r 67 = zi hd → r 75 = zi (m : Int) → MS pl nn ty va r k → r 76 = zi 0 → m ≤ k → ∃ (Y' : zMu) (r' a' b' e' : Nat → Int32), zE zc_X12_readRules (zF zT0 (d + 9)) 21 [.ref 92, .int (zi (n : Int))] [] (zm len (Mm Y r a b e) ν) = some (.int (zi (-1)), zm len (Mm Y' r' a' b' e') ν) ∧ r' 12 = zi ft ∧ r' 13 = zi (pl kf : Int) ∧ frM B r r' a a' b b' ∧ frYr Y Y' l
section RLOOP
variable {g : Nat → Int} {L K : Nat} {pl nn : Nat → Nat} {ty va : Nat → Int}
theorem rr_ok (S : Strm g L K pl nn ty va) (hL : L ≤ 800) (hg : ∀ i, 0 ≤ g i ∧ g i ≤ 255) : ∀ w k : Nat, K - k ≤ w → k ≤ K → ∀ n, n ≤ 16 → (∃ gl : List Gv, (n + gl.length ≤ 16 ∧ k + (gco gl).length ≤ K) ∧ GV gl ∧ RCo K pl ty va n k gl ∧ RMo g L pl nn ty va n k gl) ∨ ∃ (ft : Int) (kf : Nat), RCF K pl ty va n k kf ft ∧ RMF g L pl nn ty va n k kf ft := by
  have hKL := S.2.1.2.2.2
  have z133 : (133 : Int32) = zi 133 := rfl
  have xb : ∀ k, k ≤ K → 0 ≤ kd ty va k ∧ kd ty va k ≤ 142 := fun k hk => by have := (kd_c S hk).1; unfold Kc at this; omega
  have lt : ∀ k, k ≤ K → kd ty va k ≠ 0 → k < K := fun k hk h => by
    rcases Nat.lt_or_ge k K with z | z
    · exact z
    · exact absurd ((kd_c S hk).2.mpr (by omega)) h
  intro w
  induction w with
  | zero =>
    intro k hw hk n hn
    have : k = K := by omega
    subst this
    have kz := (kd_c S hk).2.mpr rfl
    refine Or.inl ⟨[], ⟨by simp; omega, by simp [gco]⟩, trivial, fun D len X ν c q f m hD hX e5 hm e6 => ⟨zi (n : Int), ?_⟩, fun d len Y ν r a b e m B l hd hhd hB hl hY e6 e67 e75 hM e76 hm => ⟨r, e, ?_, fun _ _ _ _ _ _ _ _ => rfl⟩⟩
    · obtain ⟨D, rfl⟩ : ∃ D', D = D' + 1 := ⟨D - 1, by omega⟩
      have A := S_kind hk (by omega) D len hX ν c q f m
      rw [kz] at A
      rw [B_X7_read_12]
      simp (disch := omega) only [A, B_X7_read_25, zbi_some, zbl_some, zbv_some, zbi_none, zbl_none, zbv_none, zbi_ite, zbl_ite, zbv_ite, zbZ, zbO, zc_lt, zc_le, zc_ge, zc_gt, zc_eq, zk0, zk1, zk2, zk3, zk4, zk5, zk6, zk7, zk8, zk9, zk10, zk11, zk12, zk14, zk15, zk16, zk17, zk19, zk20, zk21, zk24, zk25, zk30, zk32, zk36, zk40, zk45, zk50, zk64, zk97, zk99, zk100, zk102, zk122, zk128, zk255, zk800, zk801, zk900, zk999, zk1000, zk1997, zk9999, zk10000, zk100000, zk99999, zk9999999, zk999999999, zk2147483647, zlc0, zlc1, zlc2, zlc3, zlc4, zlc23, zlc99, zlc100, zlc9999999, zlc999999999999, zlc1073741824, zi_neg, zi_add, zi_sub, zi_mul, zl_neg, zl_add, zl_sub, zl_mul, zi_toInt, zi_nat, zi_le, zi_lt, zi_eq, zl_le, zl_lt, zl_eq, zl_toInt, zl_of32, zi_of64, zi_div, zl_div, zmodI, ↓reduceIte, zTle, zFle, zTlt, zFlt, zTeq, zFeq, if_true, if_false, and_self, and_true, true_and, and_false, false_and, or_self, or_true, true_or, or_false, false_or, not_true_eq_false, not_false_eq_true, zcastA, zcastL, znatC, zab, Int.reduceAdd, Int.reduceSub, Int.reduceMul, Int.reduceNeg, Int.reduceToNat, Nat.reduceAdd]
      rw [show upd q 6 (zi ((n : Int) + (([] : List Gv).length : Int))) = q from upd_idx e6]
      rfl
    · have w1 := M_wd S hk hM (d + 8) len Y ν a b e (w := 11) 133 (by omega)
      obtain ⟨x9, x10, n1, n2, n3⟩ := MS_n S hk hM
      have n4 : x9 = 0 := by unfold Mt at n1; omega
      rw [kz] at w1
      rw [B_X12_readRules_21]
      simp (disch := omega) only [w1, zbF, B_X12_readRules_27, zrw_s, n2, n4, B_X12_readRules_86, zbi_some, zbl_some, zbv_some, zbi_none, zbl_none, zbv_none, zbi_ite, zbl_ite, zbv_ite, zbZ, zbO, zc_lt, zc_le, zc_ge, zc_gt, zc_eq, zk0, zk1, zk2, zk3, zk4, zk5, zk6, zk7, zk8, zk9, zk10, zk11, zk12, zk14, zk15, zk16, zk17, zk19, zk20, zk21, zk24, zk25, zk30, zk32, zk36, zk40, zk45, zk50, zk64, zk97, zk99, zk100, zk102, zk122, zk128, zk255, zk800, zk801, zk900, zk999, zk1000, zk1997, zk9999, zk10000, zk100000, zk99999, zk9999999, zk999999999, zk2147483647, zlc0, zlc1, zlc2, zlc3, zlc4, zlc23, zlc99, zlc100, zlc9999999, zlc999999999999, zlc1073741824, zi_neg, zi_add, zi_sub, zi_mul, zl_neg, zl_add, zl_sub, zl_mul, zi_toInt, zi_nat, zi_le, zi_lt, zi_eq, zl_le, zl_lt, zl_eq, zl_toInt, zl_of32, zi_of64, zi_div, zl_div, zmodI, ↓reduceIte, zTle, zFle, zTlt, zFlt, zTeq, zFeq, if_true, if_false, and_self, and_true, true_and, and_false, false_and, or_self, or_true, true_or, or_false, false_or, not_true_eq_false, not_false_eq_true, zcastA, zcastL, znatC, zab, Int.reduceAdd, Int.reduceSub, Int.reduceMul, Int.reduceNeg, Int.reduceToNat, Nat.reduceAdd]
      rfl
  | succ w ih =>
    intro k hw hk n hn
    by_cases k0 : kd ty va k = 0
    · have : k = K := (kd_c S hk).2.mp k0
      subst this
      have kz := k0
      refine Or.inl ⟨[], ⟨by simp; omega, by simp [gco]⟩, trivial, fun D len X ν c q f m hD hX e5 hm e6 => ⟨zi (n : Int), ?_⟩, fun d len Y ν r a b e m B l hd hhd hB hl hY e6 e67 e75 hM e76 hm => ⟨r, e, ?_, fun _ _ _ _ _ _ _ _ => rfl⟩⟩
      · obtain ⟨D, rfl⟩ : ∃ D', D = D' + 1 := ⟨D - 1, by omega⟩
        have A := S_kind hk (by omega) D len hX ν c q f m
        rw [kz] at A
        rw [B_X7_read_12]
        simp (disch := omega) only [A, B_X7_read_25, zbi_some, zbl_some, zbv_some, zbi_none, zbl_none, zbv_none, zbi_ite, zbl_ite, zbv_ite, zbZ, zbO, zc_lt, zc_le, zc_ge, zc_gt, zc_eq, zk0, zk1, zk2, zk3, zk4, zk5, zk6, zk7, zk8, zk9, zk10, zk11, zk12, zk14, zk15, zk16, zk17, zk19, zk20, zk21, zk24, zk25, zk30, zk32, zk36, zk40, zk45, zk50, zk64, zk97, zk99, zk100, zk102, zk122, zk128, zk255, zk800, zk801, zk900, zk999, zk1000, zk1997, zk9999, zk10000, zk100000, zk99999, zk9999999, zk999999999, zk2147483647, zlc0, zlc1, zlc2, zlc3, zlc4, zlc23, zlc99, zlc100, zlc9999999, zlc999999999999, zlc1073741824, zi_neg, zi_add, zi_sub, zi_mul, zl_neg, zl_add, zl_sub, zl_mul, zi_toInt, zi_nat, zi_le, zi_lt, zi_eq, zl_le, zl_lt, zl_eq, zl_toInt, zl_of32, zi_of64, zi_div, zl_div, zmodI, ↓reduceIte, zTle, zFle, zTlt, zFlt, zTeq, zFeq, if_true, if_false, and_self, and_true, true_and, and_false, false_and, or_self, or_true, true_or, or_false, false_or, not_true_eq_false, not_false_eq_true, zcastA, zcastL, znatC, zab, Int.reduceAdd, Int.reduceSub, Int.reduceMul, Int.reduceNeg, Int.reduceToNat, Nat.reduceAdd]
        rw [show upd q 6 (zi ((n : Int) + (([] : List Gv).length : Int))) = q from upd_idx e6]
        rfl
      · have w1 := M_wd S hk hM (d + 8) len Y ν a b e (w := 11) 133 (by omega)
        obtain ⟨x9, x10, n1, n2, n3⟩ := MS_n S hk hM
        have n4 : x9 = 0 := by unfold Mt at n1; omega
        rw [kz] at w1
        rw [B_X12_readRules_21]
        simp (disch := omega) only [w1, zbF, B_X12_readRules_27, zrw_s, n2, n4, B_X12_readRules_86, zbi_some, zbl_some, zbv_some, zbi_none, zbl_none, zbv_none, zbi_ite, zbl_ite, zbv_ite, zbZ, zbO, zc_lt, zc_le, zc_ge, zc_gt, zc_eq, zk0, zk1, zk2, zk3, zk4, zk5, zk6, zk7, zk8, zk9, zk10, zk11, zk12, zk14, zk15, zk16, zk17, zk19, zk20, zk21, zk24, zk25, zk30, zk32, zk36, zk40, zk45, zk50, zk64, zk97, zk99, zk100, zk102, zk122, zk128, zk255, zk800, zk801, zk900, zk999, zk1000, zk1997, zk9999, zk10000, zk100000, zk99999, zk9999999, zk999999999, zk2147483647, zlc0, zlc1, zlc2, zlc3, zlc4, zlc23, zlc99, zlc100, zlc9999999, zlc999999999999, zlc1073741824, zi_neg, zi_add, zi_sub, zi_mul, zl_neg, zl_add, zl_sub, zl_mul, zi_toInt, zi_nat, zi_le, zi_lt, zi_eq, zl_le, zl_lt, zl_eq, zl_toInt, zl_of32, zi_of64, zi_div, zl_div, zmodI, ↓reduceIte, zTle, zFle, zTlt, zFlt, zTeq, zFeq, if_true, if_false, and_self, and_true, true_and, and_false, false_and, or_self, or_true, true_or, or_false, false_or, not_true_eq_false, not_false_eq_true, zcastA, zcastL, znatC, zab, Int.reduceAdd, Int.reduceSub, Int.reduceMul, Int.reduceNeg, Int.reduceToNat, Nat.reduceAdd]
        rfl
    have hkK := lt k hk k0
    have xk := xb k hk
    by_cases h133 : kd ty va k = 133
    · by_cases n16 : n = 16
      · refine Or.inr ⟨3, k, fun D len X ν c q f m hD hX e5 hm e6 => ?_, fun d len Y ν r a b e m B l hd hhd hB hl hY e6 e67 e75 hM e76 hm => ?_⟩
        · obtain ⟨D, rfl⟩ : ∃ D', D = D' + 2 := ⟨D - 2, by omega⟩
          have A := S_kind hk (by omega) (D + 1) len hX ν c q f m
          have A2 := S_kind hk (by omega) D len hX ν c q f m
          obtain ⟨c', q', f', T, T1, T2, T3, T4⟩ := S_fail hk (by omega) D len hX ν c q f m 3
          rw [h133] at A A2
          refine ⟨X, c', q', f', ?_, T1, T2, T3, fun i i6 i7 => T4 i i7, fun _ _ _ _ => rfl⟩
          rw [B_X7_read_12]
          simp (disch := omega) only [n16, A, B_X7_read_25, B_X7_readGive, A2, B_X7_readGive_7, z133, zrw_s, zrw_n, upd_ne, e6, T, B_X7_readGive_39, B_X7_read_32, zbi_some, zbl_some, zbv_some, zbi_none, zbl_none, zbv_none, zbi_ite, zbl_ite, zbv_ite, zbZ, zbO, zc_lt, zc_le, zc_ge, zc_gt, zc_eq, zk0, zk1, zk2, zk3, zk4, zk5, zk6, zk7, zk8, zk9, zk10, zk11, zk12, zk14, zk15, zk16, zk17, zk19, zk20, zk21, zk24, zk25, zk30, zk32, zk36, zk40, zk45, zk50, zk64, zk97, zk99, zk100, zk102, zk122, zk128, zk255, zk800, zk801, zk900, zk999, zk1000, zk1997, zk9999, zk10000, zk100000, zk99999, zk9999999, zk999999999, zk2147483647, zlc0, zlc1, zlc2, zlc3, zlc4, zlc23, zlc99, zlc100, zlc9999999, zlc999999999999, zlc1073741824, zi_neg, zi_add, zi_sub, zi_mul, zl_neg, zl_add, zl_sub, zl_mul, zi_toInt, zi_nat, zi_le, zi_lt, zi_eq, zl_le, zl_lt, zl_eq, zl_toInt, zl_of32, zi_of64, zi_div, zl_div, zmodI, ↓reduceIte, zTle, zFle, zTlt, zFlt, zTeq, zFeq, if_true, if_false, and_self, and_true, true_and, and_false, false_and, or_self, or_true, true_or, or_false, false_or, not_true_eq_false, not_false_eq_true, zcastA, zcastL, znatC, zab, Int.reduceAdd, Int.reduceSub, Int.reduceMul, Int.reduceNeg, Int.reduceToNat, Nat.reduceAdd]
        · have w1 := M_wd S hk hM (d + 8) len Y ν a b e (w := 11) 133 (by omega)
          obtain ⟨r2, N, P1, P2, P3⟩ := M_fails S hM (d + 7) len Y ν a b e 3
          rw [h133] at w1
          refine ⟨Y, r2, a, b, e, ?_, P1, P2, frM_r (fun i i7 i8 i9 i10 i12 i13 _ _ _ => P3 i i12 i13), ⟨fun _ _ _ _ _ => rfl, fun _ _ _ => rfl⟩⟩
          rw [B_X12_readRules_21]
          simp (disch := omega) only [w1, zbT, B_X12_readRules_27, n16, N, B_X12_readRules_41, zbi_some, zbl_some, zbv_some, zbi_none, zbl_none, zbv_none, zbi_ite, zbl_ite, zbv_ite, zbZ, zbO, zc_lt, zc_le, zc_ge, zc_gt, zc_eq, zk0, zk1, zk2, zk3, zk4, zk5, zk6, zk7, zk8, zk9, zk10, zk11, zk12, zk14, zk15, zk16, zk17, zk19, zk20, zk21, zk24, zk25, zk30, zk32, zk36, zk40, zk45, zk50, zk64, zk97, zk99, zk100, zk102, zk122, zk128, zk255, zk800, zk801, zk900, zk999, zk1000, zk1997, zk9999, zk10000, zk100000, zk99999, zk9999999, zk999999999, zk2147483647, zlc0, zlc1, zlc2, zlc3, zlc4, zlc23, zlc99, zlc100, zlc9999999, zlc999999999999, zlc1073741824, zi_neg, zi_add, zi_sub, zi_mul, zl_neg, zl_add, zl_sub, zl_mul, zi_toInt, zi_nat, zi_le, zi_lt, zi_eq, zl_le, zl_lt, zl_eq, zl_toInt, zl_of32, zi_of64, zi_div, zl_div, zmodI, ↓reduceIte, zTle, zFle, zTlt, zFlt, zTeq, zFeq, if_true, if_false, and_self, and_true, true_and, and_false, false_and, or_self, or_true, true_or, or_false, false_or, not_true_eq_false, not_false_eq_true, zcastA, zcastL, znatC, zab, Int.reduceAdd, Int.reduceSub, Int.reduceMul, Int.reduceNeg, Int.reduceToNat, Nat.reduceAdd]
      · have n15 : n < 16 := by omega
        rcases give_ok S hL hg k hkK h133 with ⟨k1, G, c1, c2, ⟨l1, l2, l3⟩, hG, hT1, hT2, hGC, hGM⟩ | ⟨ft, kf, hGC, hGM⟩
        · have C1 : ∀ (D len : Nat) (X : zMu) (ν : zNu) (c q f : Nat → Int32) (m : Nat), CcX K pl ty va X → c 5 = zi ((K : Int) + 1) → m ≤ k → q 6 = zi (n : Int) → zE zc_X7_read (zF zT0 (D + 25)) 12 [.ref 57, .int (zi (n : Int))] [] (zm len (ST X c q k m f) ν) = zE zc_X7_read (zF zT0 (D + 25)) 12 [.ref 57, .int (zi ((n + 1 : Nat) : Int))] [] (zm len (ST (zup (zup (zup X 63 n (zi G)) 64 n (zi ((m + c1.length : Nat) : Int))) 65 n (zi ((m + c1.length + c2.length : Nat) : Int))) c (upd q 6 (zi ((n : Int) + 1))) k1 (m + c1.length + c2.length) (wrL f m ((c1 ++ c2).map opc))) ν) := fun D len X ν c q f m hX e5 hm e6 => by
            have A := S_kind hk (by omega) (D + 24) len hX ν c q f m
            have U := hGC (D + 24) len X ν c q f m n (by omega) hX e5 hm n15 e6
            rw [h133] at A
            rw [B_X7_read_12]
            simp (disch := omega) only [A, B_X7_read_25, U, B_X7_read_32, zbi_some, zbl_some, zbv_some, zbi_none, zbl_none, zbv_none, zbi_ite, zbl_ite, zbv_ite, zbZ, zbO, zc_lt, zc_le, zc_ge, zc_gt, zc_eq, zk0, zk1, zk2, zk3, zk4, zk5, zk6, zk7, zk8, zk9, zk10, zk11, zk12, zk14, zk15, zk16, zk17, zk19, zk20, zk21, zk24, zk25, zk30, zk32, zk36, zk40, zk45, zk50, zk64, zk97, zk99, zk100, zk102, zk122, zk128, zk255, zk800, zk801, zk900, zk999, zk1000, zk1997, zk9999, zk10000, zk100000, zk99999, zk9999999, zk999999999, zk2147483647, zlc0, zlc1, zlc2, zlc3, zlc4, zlc23, zlc99, zlc100, zlc9999999, zlc999999999999, zlc1073741824, zi_neg, zi_add, zi_sub, zi_mul, zl_neg, zl_add, zl_sub, zl_mul, zi_toInt, zi_nat, zi_le, zi_lt, zi_eq, zl_le, zl_lt, zl_eq, zl_toInt, zl_of32, zi_of64, zi_div, zl_div, zmodI, ↓reduceIte, zTle, zFle, zTlt, zFlt, zTeq, zFeq, if_true, if_false, and_self, and_true, true_and, and_false, false_and, or_self, or_true, true_or, or_false, false_or, not_true_eq_false, not_false_eq_true, zcastA, zcastL, znatC, zab, Int.reduceAdd, Int.reduceSub, Int.reduceMul, Int.reduceNeg, Int.reduceToNat, Nat.reduceAdd]
          have M1 : ∀ (d len : Nat) (Y : zMu) (ν : zNu) (r a b e : Nat → Int32) (m B l : Nat) (hd : Int), (0 ≤ hd ∧ hd ≤ 1) → (B : Int) = 800 * (1 - hd) → (l : Int) = 16 * (1 - hd) → CcY g Y → r 6 = zi (L : Int) → r 67 = zi hd → r 75 = zi (m : Int) → MS pl nn ty va r k → r 76 = zi 0 → m ≤ k → ∃ r' e' : Nat → Int32, zE zc_X12_readRules (zF zT0 (d + 9)) 21 [.ref 92, .int (zi (n : Int))] [] (zm len (Mm Y r a b e) ν) = zE zc_X12_readRules (zF zT0 (d + 9)) 21 [.ref 92, .int (zi ((n + 1 : Nat) : Int))] [] (zm len (Mm (zup (zup (zup (zup Y 140 (l + n) (zi (m : Int))) 141 (l + n) (zi ((m + c1.length : Nat) : Int))) 139 (l + n) (zi G)) 142 (l + n) (zi ((m + c1.length + c2.length : Nat) : Int))) r' (wrL a (B + m) ((c1 ++ c2).map opo)) (wrL b (B + m) ((c1 ++ c2).map opa)) e') ν) ∧ MS pl nn ty va r' k1 ∧ r' 75 = zi ((m + c1.length + c2.length : Nat) : Int) ∧ r' 76 = zi 0 ∧ frR r r' := fun d len Y ν r a b e m B l hd hhd hB hl hY e6 e67 e75 hM e76 hm => by
            have w1 := M_wd S hk hM (d + 8) len Y ν a b e (w := 11) 133 (by omega)
            rw [h133] at w1
            obtain ⟨r', e', U, b1, b2, b3, b4⟩ := hGM d len Y ν r a b e m B (l + n) hd hhd hB hY e6 e67 e75 hM e76 hm (by omega)
            refine ⟨r', e', ?_, b1, b2, b3, b4⟩
            have ix : 16 * (1 - hd) + (n : Int) = ((l + n : Nat) : Int) := by omega
            rw [B_X12_readRules_21]
            simp (disch := omega) only [w1, zbT, B_X12_readRules_27, zrw_s, e67, zbi_some, zbl_some, zbv_some, zbi_none, zbl_none, zbv_none, zbi_ite, zbl_ite, zbv_ite, zbZ, zbO, zc_lt, zc_le, zc_ge, zc_gt, zc_eq, zk0, zk1, zk2, zk3, zk4, zk5, zk6, zk7, zk8, zk9, zk10, zk11, zk12, zk14, zk15, zk16, zk17, zk19, zk20, zk21, zk24, zk25, zk30, zk32, zk36, zk40, zk45, zk50, zk64, zk97, zk99, zk100, zk102, zk122, zk128, zk255, zk800, zk801, zk900, zk999, zk1000, zk1997, zk9999, zk10000, zk100000, zk99999, zk9999999, zk999999999, zk2147483647, zlc0, zlc1, zlc2, zlc3, zlc4, zlc23, zlc99, zlc100, zlc9999999, zlc999999999999, zlc1073741824, zi_neg, zi_add, zi_sub, zi_mul, zl_neg, zl_add, zl_sub, zl_mul, zi_toInt, zi_nat, zi_le, zi_lt, zi_eq, zl_le, zl_lt, zl_eq, zl_toInt, zl_of32, zi_of64, zi_div, zl_div, zmodI, ↓reduceIte, zTle, zFle, zTlt, zFlt, zTeq, zFeq, if_true, if_false, and_self, and_true, true_and, and_false, false_and, or_self, or_true, true_or, or_false, false_or, not_true_eq_false, not_false_eq_true, zcastA, zcastL, znatC, zab, Int.reduceAdd, Int.reduceSub, Int.reduceMul, Int.reduceNeg, Int.reduceToNat, Nat.reduceAdd]
            rw [ix, U]
            simp (disch := omega) only [B_X12_readRules_57, zbi_some, zbl_some, zbv_some, zbi_none, zbl_none, zbv_none, zbi_ite, zbl_ite, zbv_ite, zbZ, zbO, zc_lt, zc_le, zc_ge, zc_gt, zc_eq, zk0, zk1, zk2, zk3, zk4, zk5, zk6, zk7, zk8, zk9, zk10, zk11, zk12, zk14, zk15, zk16, zk17, zk19, zk20, zk21, zk24, zk25, zk30, zk32, zk36, zk40, zk45, zk50, zk64, zk97, zk99, zk100, zk102, zk122, zk128, zk255, zk800, zk801, zk900, zk999, zk1000, zk1997, zk9999, zk10000, zk100000, zk99999, zk9999999, zk999999999, zk2147483647, zlc0, zlc1, zlc2, zlc3, zlc4, zlc23, zlc99, zlc100, zlc9999999, zlc999999999999, zlc1073741824, zi_neg, zi_add, zi_sub, zi_mul, zl_neg, zl_add, zl_sub, zl_mul, zi_toInt, zi_nat, zi_le, zi_lt, zi_eq, zl_le, zl_lt, zl_eq, zl_toInt, zl_of32, zi_of64, zi_div, zl_div, zmodI, ↓reduceIte, zTle, zFle, zTlt, zFlt, zTeq, zFeq, if_true, if_false, and_self, and_true, true_and, and_false, false_and, or_self, or_true, true_or, or_false, false_or, not_true_eq_false, not_false_eq_true, zcastA, zcastL, znatC, zab, Int.reduceAdd, Int.reduceSub, Int.reduceMul, Int.reduceNeg, Int.reduceToNat, Nat.reduceAdd]
          rcases ih k1 (by omega) l2 (n + 1) n15 with ⟨gl, ⟨j1, j2⟩, hV, hRC, hRM⟩ | ⟨ft, kf, hRC, hRM⟩
          · refine Or.inl ⟨(G, c1, c2) :: gl, ⟨by rw [List.length_cons]; omega, by show k + ((c1 ++ c2) ++ gco gl).length ≤ K; rw [List.length_append, List.length_append]; omega⟩, ⟨⟨hG, hT1, hT2⟩, hV⟩, fun D len X ν c q f m hD hX e5 hm e6 => ?_, fun d len Y ν r a b e m B l hd hhd hB hl hY e6 e67 e75 hM e76 hm => ?_⟩
            · obtain ⟨D, rfl⟩ : ∃ D', D = D' + 25 := ⟨D - 25, by omega⟩
              obtain ⟨x, E2⟩ := hRC (D + 25) len (zup (zup (zup X 63 n (zi G)) 64 n (zi ((m + c1.length : Nat) : Int))) 65 n (zi ((m + c1.length + c2.length : Nat) : Int))) ν c (upd q 6 (zi ((n : Int) + 1))) (wrL f m ((c1 ++ c2).map opc)) (m + c1.length + c2.length) hD hX e5 (by omega) rfl
              refine ⟨x, (C1 D len X ν c q f m hX e5 hm e6).trans (E2.trans ?_)⟩
              rw [wrL_cat _ f m (m + c1.length + c2.length) (c1 ++ c2) (gco gl) (by rw [List.length_append]; omega), upd_upd, show n + 1 + gl.length = n + ((G, c1, c2) :: gl).length by rw [List.length_cons]; omega, show m + c1.length + c2.length + (gco gl).length = m + (gco ((G, c1, c2) :: gl)).length by show _ = m + ((c1 ++ c2) ++ gco gl).length; rw [List.length_append, List.length_append]; omega]
              rfl
            · obtain ⟨r1, e1, E1, a1, a2, a3, a4⟩ := M1 d len Y ν r a b e m B l hd hhd hB hl hY e6 e67 e75 hM e76 hm
              obtain ⟨r2, e2, E2, b1⟩ := hRM d len (zup (zup (zup (zup Y 140 (l + n) (zi (m : Int))) 141 (l + n) (zi ((m + c1.length : Nat) : Int))) 139 (l + n) (zi G)) 142 (l + n) (zi ((m + c1.length + c2.length : Nat) : Int))) ν r1 (wrL a (B + m) ((c1 ++ c2).map opo)) (wrL b (B + m) ((c1 ++ c2).map opa)) e1 (m + c1.length + c2.length) B l hd hhd hB hl hY (by rw [a4 6 (by decide) (by decide) (by decide) (by decide) (by decide) (by decide) (by decide)]; exact e6) (by rw [a4 67 (by decide) (by decide) (by decide) (by decide) (by decide) (by decide) (by decide)]; exact e67) a2 a1 a3 (by omega)
              refine ⟨r2, e2, E1.trans (E2.trans ?_), fun i i7 i8 i9 i10 i75 i76 i78 => by rw [b1 i i7 i8 i9 i10 i75 i76 i78, a4 i i7 i8 i9 i10 i75 i76 i78]⟩
              rw [wrL_cat _ a (B + m) (B + (m + c1.length + c2.length)) (c1 ++ c2) (gco gl) (by rw [List.length_append]; omega), wrL_cat _ b (B + m) (B + (m + c1.length + c2.length)) (c1 ++ c2) (gco gl) (by rw [List.length_append]; omega), show n + 1 + gl.length = n + ((G, c1, c2) :: gl).length by rw [List.length_cons]; omega]
              rfl
          · refine Or.inr ⟨ft, kf, fun D len X ν c q f m hD hX e5 hm e6 => ?_, fun d len Y ν r a b e m B l hd hhd hB hl hY e6 e67 e75 hM e76 hm => ?_⟩
            · obtain ⟨D, rfl⟩ : ∃ D', D = D' + 25 := ⟨D - 25, by omega⟩
              obtain ⟨X', c', q', f', E2, E3, E4, E5, E6, E7⟩ := hRC (D + 25) len (zup (zup (zup X 63 n (zi G)) 64 n (zi ((m + c1.length : Nat) : Int))) 65 n (zi ((m + c1.length + c2.length : Nat) : Int))) ν c (upd q 6 (zi ((n : Int) + 1))) (wrL f m ((c1 ++ c2).map opc)) (m + c1.length + c2.length) hD hX e5 (by omega) rfl
              exact ⟨X', c', q', f', (C1 D len X ν c q f m hX e5 hm e6).trans E2, E3, E4, E5, fun i i6 i7 => by rw [E6 i i6 i7, upd_ne _ _ i6], fun i i3 i4 i5 => by rw [E7 i i3 i4 i5, zup_ne _ _ _ i5, zup_ne _ _ _ i4, zup_ne _ _ _ i3]⟩
            · obtain ⟨r1, e1, E1, a1, a2, a3, a4⟩ := M1 d len Y ν r a b e m B l hd hhd hB hl hY e6 e67 e75 hM e76 hm
              obtain ⟨Y', r2, a', b', e2, E2, b1, b2, b3, b4⟩ := hRM d len (zup (zup (zup (zup Y 140 (l + n) (zi (m : Int))) 141 (l + n) (zi ((m + c1.length : Nat) : Int))) 139 (l + n) (zi G)) 142 (l + n) (zi ((m + c1.length + c2.length : Nat) : Int))) ν r1 (wrL a (B + m) ((c1 ++ c2).map opo)) (wrL b (B + m) ((c1 ++ c2).map opa)) e1 (m + c1.length + c2.length) B l hd hhd hB hl hY (by rw [a4 6 (by decide) (by decide) (by decide) (by decide) (by decide) (by decide) (by decide)]; exact e6) (by rw [a4 67 (by decide) (by decide) (by decide) (by decide) (by decide) (by decide) (by decide)]; exact e67) a2 a1 a3 (by omega)
              exact ⟨Y', r2, a', b', e2, E1.trans E2, b1, b2, frM_tr (frM_wR a4 (by rw [List.length_map, List.length_append]; omega) (by rw [List.length_map, List.length_append]; omega)) b3, frYr_tr (frYr_of (frY_up (frY_up (frY_up (frY_up (frY_rf Y (l + n)) (by omega)) (by omega)) (by omega)) (by omega)) (by omega) (by omega)) b4⟩
        · refine Or.inr ⟨ft, kf, fun D len X ν c q f m hD hX e5 hm e6 => ?_, fun d len Y ν r a b e m B l hd hhd hB hl hY e6 e67 e75 hM e76 hm => ?_⟩
          · obtain ⟨D, rfl⟩ : ∃ D', D = D' + 25 := ⟨D - 25, by omega⟩
            have A := S_kind hk (by omega) (D + 24) len hX ν c q f m
            obtain ⟨X', c', q', f', U, U1⟩ := hGC (D + 24) len X ν c q f m n (by omega) hX e5 hm n15 e6
            rw [h133] at A
            refine ⟨X', c', q', f', ?_, U1⟩
            rw [B_X7_read_12]
            simp (disch := omega) only [A, B_X7_read_25, U, B_X7_read_32, zbi_some, zbl_some, zbv_some, zbi_none, zbl_none, zbv_none, zbi_ite, zbl_ite, zbv_ite, zbZ, zbO, zc_lt, zc_le, zc_ge, zc_gt, zc_eq, zk0, zk1, zk2, zk3, zk4, zk5, zk6, zk7, zk8, zk9, zk10, zk11, zk12, zk14, zk15, zk16, zk17, zk19, zk20, zk21, zk24, zk25, zk30, zk32, zk36, zk40, zk45, zk50, zk64, zk97, zk99, zk100, zk102, zk122, zk128, zk255, zk800, zk801, zk900, zk999, zk1000, zk1997, zk9999, zk10000, zk100000, zk99999, zk9999999, zk999999999, zk2147483647, zlc0, zlc1, zlc2, zlc3, zlc4, zlc23, zlc99, zlc100, zlc9999999, zlc999999999999, zlc1073741824, zi_neg, zi_add, zi_sub, zi_mul, zl_neg, zl_add, zl_sub, zl_mul, zi_toInt, zi_nat, zi_le, zi_lt, zi_eq, zl_le, zl_lt, zl_eq, zl_toInt, zl_of32, zi_of64, zi_div, zl_div, zmodI, ↓reduceIte, zTle, zFle, zTlt, zFlt, zTeq, zFeq, if_true, if_false, and_self, and_true, true_and, and_false, false_and, or_self, or_true, true_or, or_false, false_or, not_true_eq_false, not_false_eq_true, zcastA, zcastL, znatC, zab, Int.reduceAdd, Int.reduceSub, Int.reduceMul, Int.reduceNeg, Int.reduceToNat, Nat.reduceAdd]
          · have w1 := M_wd S hk hM (d + 8) len Y ν a b e (w := 11) 133 (by omega)
            rw [h133] at w1
            obtain ⟨Y', r', a', b', e', U, b1, b2, b3, b4⟩ := hGM d len Y ν r a b e m B (l + n) hd hhd hB hY e6 e67 e75 hM e76 hm (by omega)
            refine ⟨Y', r', a', b', e', ?_, b1, b2, b3, frYr_of b4 (by omega) (by omega)⟩
            have ix : 16 * (1 - hd) + (n : Int) = ((l + n : Nat) : Int) := by omega
            rw [B_X12_readRules_21]
            simp (disch := omega) only [w1, zbT, B_X12_readRules_27, zrw_s, e67, zbi_some, zbl_some, zbv_some, zbi_none, zbl_none, zbv_none, zbi_ite, zbl_ite, zbv_ite, zbZ, zbO, zc_lt, zc_le, zc_ge, zc_gt, zc_eq, zk0, zk1, zk2, zk3, zk4, zk5, zk6, zk7, zk8, zk9, zk10, zk11, zk12, zk14, zk15, zk16, zk17, zk19, zk20, zk21, zk24, zk25, zk30, zk32, zk36, zk40, zk45, zk50, zk64, zk97, zk99, zk100, zk102, zk122, zk128, zk255, zk800, zk801, zk900, zk999, zk1000, zk1997, zk9999, zk10000, zk100000, zk99999, zk9999999, zk999999999, zk2147483647, zlc0, zlc1, zlc2, zlc3, zlc4, zlc23, zlc99, zlc100, zlc9999999, zlc999999999999, zlc1073741824, zi_neg, zi_add, zi_sub, zi_mul, zl_neg, zl_add, zl_sub, zl_mul, zi_toInt, zi_nat, zi_le, zi_lt, zi_eq, zl_le, zl_lt, zl_eq, zl_toInt, zl_of32, zi_of64, zi_div, zl_div, zmodI, ↓reduceIte, zTle, zFle, zTlt, zFlt, zTeq, zFeq, if_true, if_false, and_self, and_true, true_and, and_false, false_and, or_self, or_true, true_or, or_false, false_or, not_true_eq_false, not_false_eq_true, zcastA, zcastL, znatC, zab, Int.reduceAdd, Int.reduceSub, Int.reduceMul, Int.reduceNeg, Int.reduceToNat, Nat.reduceAdd]
            rw [ix, U]
            simp (disch := omega) only [B_X12_readRules_57, zbi_some, zbl_some, zbv_some, zbi_none, zbl_none, zbv_none, zbi_ite, zbl_ite, zbv_ite, zbZ, zbO, zc_lt, zc_le, zc_ge, zc_gt, zc_eq, zk0, zk1, zk2, zk3, zk4, zk5, zk6, zk7, zk8, zk9, zk10, zk11, zk12, zk14, zk15, zk16, zk17, zk19, zk20, zk21, zk24, zk25, zk30, zk32, zk36, zk40, zk45, zk50, zk64, zk97, zk99, zk100, zk102, zk122, zk128, zk255, zk800, zk801, zk900, zk999, zk1000, zk1997, zk9999, zk10000, zk100000, zk99999, zk9999999, zk999999999, zk2147483647, zlc0, zlc1, zlc2, zlc3, zlc4, zlc23, zlc99, zlc100, zlc9999999, zlc999999999999, zlc1073741824, zi_neg, zi_add, zi_sub, zi_mul, zl_neg, zl_add, zl_sub, zl_mul, zi_toInt, zi_nat, zi_le, zi_lt, zi_eq, zl_le, zl_lt, zl_eq, zl_toInt, zl_of32, zi_of64, zi_div, zl_div, zmodI, ↓reduceIte, zTle, zFle, zTlt, zFlt, zTeq, zFeq, if_true, if_false, and_self, and_true, true_and, and_false, false_and, or_self, or_true, true_or, or_false, false_or, not_true_eq_false, not_false_eq_true, zcastA, zcastL, znatC, zab, Int.reduceAdd, Int.reduceSub, Int.reduceMul, Int.reduceNeg, Int.reduceToNat, Nat.reduceAdd]
    · refine Or.inr ⟨1, k, fun D len X ν c q f m hD hX e5 hm e6 => ?_, fun d len Y ν r a b e m B l hd hhd hB hl hY e6 e67 e75 hM e76 hm => ?_⟩
      · obtain ⟨D, rfl⟩ : ∃ D', D = D' + 2 := ⟨D - 2, by omega⟩
        have A := S_kind hk (by omega) (D + 1) len hX ν c q f m
        have A2 := S_kind hk (by omega) D len hX ν c q f m
        obtain ⟨c', q', f', T, T1, T2, T3, T4⟩ := S_fail hk (by omega) D len hX ν c q f m 1
        refine ⟨X, c', q', f', ?_, T1, T2, T3, fun i i6 i7 => T4 i i7, fun _ _ _ _ => rfl⟩
        rw [B_X7_read_12]
        simp (disch := omega) only [A, k0, B_X7_read_25, B_X7_readGive, A2, B_X7_readGive_7, z133, h133, T, B_X7_readGive_21, B_X7_read_32, zbi_some, zbl_some, zbv_some, zbi_none, zbl_none, zbv_none, zbi_ite, zbl_ite, zbv_ite, zbZ, zbO, zc_lt, zc_le, zc_ge, zc_gt, zc_eq, zk0, zk1, zk2, zk3, zk4, zk5, zk6, zk7, zk8, zk9, zk10, zk11, zk12, zk14, zk15, zk16, zk17, zk19, zk20, zk21, zk24, zk25, zk30, zk32, zk36, zk40, zk45, zk50, zk64, zk97, zk99, zk100, zk102, zk122, zk128, zk255, zk800, zk801, zk900, zk999, zk1000, zk1997, zk9999, zk10000, zk100000, zk99999, zk9999999, zk999999999, zk2147483647, zlc0, zlc1, zlc2, zlc3, zlc4, zlc23, zlc99, zlc100, zlc9999999, zlc999999999999, zlc1073741824, zi_neg, zi_add, zi_sub, zi_mul, zl_neg, zl_add, zl_sub, zl_mul, zi_toInt, zi_nat, zi_le, zi_lt, zi_eq, zl_le, zl_lt, zl_eq, zl_toInt, zl_of32, zi_of64, zi_div, zl_div, zmodI, ↓reduceIte, zTle, zFle, zTlt, zFlt, zTeq, zFeq, if_true, if_false, and_self, and_true, true_and, and_false, false_and, or_self, or_true, true_or, or_false, false_or, not_true_eq_false, not_false_eq_true, zcastA, zcastL, znatC, zab, Int.reduceAdd, Int.reduceSub, Int.reduceMul, Int.reduceNeg, Int.reduceToNat, Nat.reduceAdd]
      · have w1 := M_wd S hk hM (d + 8) len Y ν a b e (w := 11) 133 (by omega)
        obtain ⟨r2, N, P1, P2, P3⟩ := M_fails S hM (d + 7) len Y ν a b e 1
        obtain ⟨x9, x10, n1, n2, n3⟩ := MS_n S hk hM
        have n4 : x9 ≠ 0 ∧ 0 ≤ x9 ∧ x9 ≤ 4 := by unfold Mt at n1; omega
        obtain ⟨n4, n5⟩ := n4
        refine ⟨Y, r2, a, b, e, ?_, P1, P2, frM_r (fun i i7 i8 i9 i10 i12 i13 _ _ _ => P3 i i12 i13), ⟨fun _ _ _ _ _ => rfl, fun _ _ _ => rfl⟩⟩
        rw [B_X12_readRules_21]
        simp (disch := omega) only [w1, h133, zbF, B_X12_readRules_27, zrw_s, n2, n4, N, B_X12_readRules_86, zbi_some, zbl_some, zbv_some, zbi_none, zbl_none, zbv_none, zbi_ite, zbl_ite, zbv_ite, zbZ, zbO, zc_lt, zc_le, zc_ge, zc_gt, zc_eq, zk0, zk1, zk2, zk3, zk4, zk5, zk6, zk7, zk8, zk9, zk10, zk11, zk12, zk14, zk15, zk16, zk17, zk19, zk20, zk21, zk24, zk25, zk30, zk32, zk36, zk40, zk45, zk50, zk64, zk97, zk99, zk100, zk102, zk122, zk128, zk255, zk800, zk801, zk900, zk999, zk1000, zk1997, zk9999, zk10000, zk100000, zk99999, zk9999999, zk999999999, zk2147483647, zlc0, zlc1, zlc2, zlc3, zlc4, zlc23, zlc99, zlc100, zlc9999999, zlc999999999999, zlc1073741824, zi_neg, zi_add, zi_sub, zi_mul, zl_neg, zl_add, zl_sub, zl_mul, zi_toInt, zi_nat, zi_le, zi_lt, zi_eq, zl_le, zl_lt, zl_eq, zl_toInt, zl_of32, zi_of64, zi_div, zl_div, zmodI, ↓reduceIte, zTle, zFle, zTlt, zFlt, zTeq, zFeq, if_true, if_false, and_self, and_true, true_and, and_false, false_and, or_self, or_true, true_or, or_false, false_or, not_true_eq_false, not_false_eq_true, zcastA, zcastL, znatC, zab, Int.reduceAdd, Int.reduceSub, Int.reduceMul, Int.reduceNeg, Int.reduceToNat, Nat.reduceAdd]
end RLOOP

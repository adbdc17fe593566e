/-! TABLET read: a LINE, both sides at once -/
def LnV (x : Ln) : Prop := (0 ≤ x.1 ∧ x.1 ≤ 2) ∧ (0 ≤ x.2.1 ∧ x.2.1 ≤ 7) ∧ (0 ≤ x.2.2.1 ∧ x.2.2.1 ≤ 1) ∧ (0 ≤ x.2.2.2.1 ∧ x.2.2.2.1 ≤ 59399406) ∧ mkV x.2.2.2.2 ∧ x.2.2.2.2.length ≤ 2 ∧ (x.2.2.1 = 1 → x.2.2.2 = (0, []))
def LV (ln : Nat → Ln) (n : Nat) : Prop := (∀ i, i < n → LnV (ln i)) ∧ ∀ b, (mkF ln b n).length ≤ 2
theorem LV_S {ln : Nat → Ln} {n : Nat} {x : Ln} (h : LV ln n) (h1 : 0 ≤ x.1 ∧ x.1 ≤ 2) (h2 : 0 ≤ x.2.1 ∧ x.2.1 ≤ 7) (h3 : 0 ≤ x.2.2.1 ∧ x.2.2.1 ≤ 1) (h4 : x.2.2.1 = 1 → x.2.2.2 = (0, [])) (hI : LI (setL ln n x) n 59399406) : LV (setL ln n x) (n + 1) := by
  obtain ⟨i1, i2, i3⟩ := hI
  have lo : ∀ i, i < n → (setL ln n x) i = ln i := fun i hi => setL_o ln _ (by omega)
  have i4 := i3
  rw [mk_len] at i4
  rw [setL_n] at i1 i2 i4
  refine ⟨fun i hi => ?_, fun b => ?_⟩
  · by_cases z : i = n
    · rw [z, setL_n]
      exact ⟨h1, h2, h3, i1, i2, by omega, h4⟩
    · rw [lo i (by omega)]
      exact h.1 i (by omega)
  · by_cases z : bkF (setL ln n x) n = b
    · rw [← z]
      exact i3
    · rw [mkF_S, if_neg z, List.append_nil, mkF_c b n lo]
      exact h.2 b
theorem good_c (d len : Nat) (M : zMu) (ν : zNu) {v : Int} (hv : 0 ≤ v ∧ v ≤ 9999) : zF zT0 (d + 2) 176 [.int (zi v)] (zm len M ν) = some (.int (zi (if v ≤ 7 then 1 else 0)), zm len M ν) := by
  have z7 : (7 : Int32) = zi 7 := rfl
  rw [B_X11_isGood]
  by_cases z : v ≤ 7
  · rw [if_pos z]
    simp (disch := omega) only [B_X11_within, B_X11_isGood_7, z7, zbi_some, zbl_some, zbv_some, zbi_none, zbl_none, zbv_none, zbi_ite, zbl_ite, zbv_ite, zbZ, zbO, zc_lt, zc_le, zc_ge, zc_gt, zc_eq, zk0, zk1, zk2, zk3, zk4, zk5, zk6, zk7, zk8, zk9, zk10, zk11, zk12, zk14, zk15, zk16, zk17, zk19, zk20, zk21, zk24, zk25, zk30, zk32, zk36, zk40, zk45, zk50, zk64, zk97, zk99, zk100, zk102, zk122, zk128, zk255, zk800, zk801, zk900, zk999, zk1000, zk1997, zk9999, zk10000, zk100000, zk99999, zk9999999, zk999999999, zk2147483647, zlc0, zlc1, zlc2, zlc3, zlc4, zlc23, zlc99, zlc100, zlc9999999, zlc999999999999, zlc1073741824, zi_neg, zi_add, zi_sub, zi_mul, zl_neg, zl_add, zl_sub, zl_mul, zi_toInt, zi_nat, zi_le, zi_lt, zi_eq, zl_le, zl_lt, zl_eq, zl_toInt, zl_of32, zi_of64, zi_div, zl_div, zmodI, ↓reduceIte, zTle, zFle, zTlt, zFlt, zTeq, zFeq, if_true, if_false, and_self, and_true, true_and, and_false, false_and, or_self, or_true, true_or, or_false, false_or, not_true_eq_false, not_false_eq_true, zcastA, zcastL, znatC, zab, Int.reduceAdd, Int.reduceSub, Int.reduceMul, Int.reduceNeg, Int.reduceToNat, Nat.reduceAdd]
  · rw [if_neg z]
    simp (disch := omega) only [B_X11_within, B_X11_isGood_7, z7, zbi_some, zbl_some, zbv_some, zbi_none, zbl_none, zbv_none, zbi_ite, zbl_ite, zbv_ite, zbZ, zbO, zc_lt, zc_le, zc_ge, zc_gt, zc_eq, zk0, zk1, zk2, zk3, zk4, zk5, zk6, zk7, zk8, zk9, zk10, zk11, zk12, zk14, zk15, zk16, zk17, zk19, zk20, zk21, zk24, zk25, zk30, zk32, zk36, zk40, zk45, zk50, zk64, zk97, zk99, zk100, zk102, zk122, zk128, zk255, zk800, zk801, zk900, zk999, zk1000, zk1997, zk9999, zk10000, zk100000, zk99999, zk9999999, zk999999999, zk2147483647, zlc0, zlc1, zlc2, zlc3, zlc4, zlc23, zlc99, zlc100, zlc9999999, zlc999999999999, zlc1073741824, zi_neg, zi_add, zi_sub, zi_mul, zl_neg, zl_add, zl_sub, zl_mul, zi_toInt, zi_nat, zi_le, zi_lt, zi_eq, zl_le, zl_lt, zl_eq, zl_toInt, zl_of32, zi_of64, zi_div, zl_div, zmodI, ↓reduceIte, zTle, zFle, zTlt, zFlt, zTeq, zFeq, if_true, if_false, and_self, and_true, true_and, and_false, false_and, or_self, or_true, true_or, or_false, false_or, not_true_eq_false, not_false_eq_true, zcastA, zcastL, znatC, zab, Int.reduceAdd, Int.reduceSub, Int.reduceMul, Int.reduceNeg, Int.reduceToNat, Nat.reduceAdd]
theorem good_m (d len : Nat) (M : zMu) (ν : zNu) {v : Int} (hv : 0 ≤ v ∧ v ≤ 9999) : zF zT0 (d + 2) 186 [.ref 92, .int (zi v)] (zm len M ν) = some (.int (zi (if v ≤ 7 then 1 else 0)), zm len M ν) := by
  have z7 : (7 : Int32) = zi 7 := rfl
  rw [B_X12_isGood]
  by_cases z : v ≤ 7
  · rw [if_pos z]
    simp (disch := omega) only [B_X12_isIn, B_X12_isGood_8, z7, zbi_some, zbl_some, zbv_some, zbi_none, zbl_none, zbv_none, zbi_ite, zbl_ite, zbv_ite, zbZ, zbO, zc_lt, zc_le, zc_ge, zc_gt, zc_eq, zk0, zk1, zk2, zk3, zk4, zk5, zk6, zk7, zk8, zk9, zk10, zk11, zk12, zk14, zk15, zk16, zk17, zk19, zk20, zk21, zk24, zk25, zk30, zk32, zk36, zk40, zk45, zk50, zk64, zk97, zk99, zk100, zk102, zk122, zk128, zk255, zk800, zk801, zk900, zk999, zk1000, zk1997, zk9999, zk10000, zk100000, zk99999, zk9999999, zk999999999, zk2147483647, zlc0, zlc1, zlc2, zlc3, zlc4, zlc23, zlc99, zlc100, zlc9999999, zlc999999999999, zlc1073741824, zi_neg, zi_add, zi_sub, zi_mul, zl_neg, zl_add, zl_sub, zl_mul, zi_toInt, zi_nat, zi_le, zi_lt, zi_eq, zl_le, zl_lt, zl_eq, zl_toInt, zl_of32, zi_of64, zi_div, zl_div, zmodI, ↓reduceIte, zTle, zFle, zTlt, zFlt, zTeq, zFeq, if_true, if_false, and_self, and_true, true_and, and_false, false_and, or_self, or_true, true_or, or_false, false_or, not_true_eq_false, not_false_eq_true, zcastA, zcastL, znatC, zab, Int.reduceAdd, Int.reduceSub, Int.reduceMul, Int.reduceNeg, Int.reduceToNat, Nat.reduceAdd]
  · rw [if_neg z]
    simp (disch := omega) only [B_X12_isIn, B_X12_isGood_8, z7, zbi_some, zbl_some, zbv_some, zbi_none, zbl_none, zbv_none, zbi_ite, zbl_ite, zbv_ite, zbZ, zbO, zc_lt, zc_le, zc_ge, zc_gt, zc_eq, zk0, zk1, zk2, zk3, zk4, zk5, zk6, zk7, zk8, zk9, zk10, zk11, zk12, zk14, zk15, zk16, zk17, zk19, zk20, zk21, zk24, zk25, zk30, zk32, zk36, zk40, zk45, zk50, zk64, zk97, zk99, zk100, zk102, zk122, zk128, zk255, zk800, zk801, zk900, zk999, zk1000, zk1997, zk9999, zk10000, zk100000, zk99999, zk9999999, zk999999999, zk2147483647, zlc0, zlc1, zlc2, zlc3, zlc4, zlc23, zlc99, zlc100, zlc9999999, zlc999999999999, zlc1073741824, zi_neg, zi_add, zi_sub, zi_mul, zl_neg, zl_add, zl_sub, zl_mul, zi_toInt, zi_nat, zi_le, zi_lt, zi_eq, zl_le, zl_lt, zl_eq, zl_toInt, zl_of32, zi_of64, zi_div, zl_div, zmodI, ↓reduceIte, zTle, zFle, zTlt, zFlt, zTeq, zFeq, if_true, if_false, and_self, and_true, true_and, and_false, false_and, or_self, or_true, true_or, or_false, false_or, not_true_eq_false, not_false_eq_true, zcastA, zcastL, znatC, zab, Int.reduceAdd, Int.reduceSub, Int.reduceMul, Int.reduceNeg, Int.reduceToNat, Nat.reduceAdd]
theorem F_syso (d len : Nat) {X : zMu} {sy sn : Nat → Nat} {st : Nat → Nat → Int} (hX : NX sy sn st X) (ν : zNu) {gg : Nat} (h : gg < 8) : zF zT0 (d + 3) 67 [.ref 2, .int (zi (gg : Int))] (zm len X ν) = some (.int (zi (sy gg : Int)), zm len X ν) := by
  have e := hX.1 gg h
  have G := good_c d len X ν (v := (gg : Int)) (by omega)
  rw [if_pos (by omega)] at G
  rw [B_X5_systemOf]
  simp (disch := omega) only [G, B_X5_systemOf_4, e, zbi_some, zbl_some, zbv_some, zbi_none, zbl_none, zbv_none, zbi_ite, zbl_ite, zbv_ite, zbZ, zbO, zc_lt, zc_le, zc_ge, zc_gt, zc_eq, zk0, zk1, zk2, zk3, zk4, zk5, zk6, zk7, zk8, zk9, zk10, zk11, zk12, zk14, zk15, zk16, zk17, zk19, zk20, zk21, zk24, zk25, zk30, zk32, zk36, zk40, zk45, zk50, zk64, zk97, zk99, zk100, zk102, zk122, zk128, zk255, zk800, zk801, zk900, zk999, zk1000, zk1997, zk9999, zk10000, zk100000, zk99999, zk9999999, zk999999999, zk2147483647, zlc0, zlc1, zlc2, zlc3, zlc4, zlc23, zlc99, zlc100, zlc9999999, zlc999999999999, zlc1073741824, zi_neg, zi_add, zi_sub, zi_mul, zl_neg, zl_add, zl_sub, zl_mul, zi_toInt, zi_nat, zi_le, zi_lt, zi_eq, zl_le, zl_lt, zl_eq, zl_toInt, zl_of32, zi_of64, zi_div, zl_div, zmodI, ↓reduceIte, zTle, zFle, zTlt, zFlt, zTeq, zFeq, if_true, if_false, and_self, and_true, true_and, and_false, false_and, or_self, or_true, true_or, or_false, false_or, not_true_eq_false, not_false_eq_true, zcastA, zcastL, znatC, zab, Int.reduceAdd, Int.reduceSub, Int.reduceMul, Int.reduceNeg, Int.reduceToNat, Nat.reduceAdd]
section LT3
variable {g : Nat → Int} {L K : Nat} {pl nn : Nat → Nat} {ty va : Nat → Int} {sy sn : Nat → Nat} {st : Nat → Nat → Int}
theorem ns_d {ln : Nat → Ln} {n k : Nat} {Y : zMu} {ν : zNu} {r : Nat → Int32} (hP : NPs g L pl nn ty va sy sn st ln n k Y ν r) (e : (ln n).2.2 = (0, 0, [])) : NPd g L pl nn ty va sy sn st ln n k (zup (zup Y 104 (288 + n) (zi 0)) 103 (288 + n) (zi 0)) (zupl ν 102 (288 + n) (zl 0)) r ∧ frN Y (zup (zup Y 104 (288 + n) (zi 0)) 103 (288 + n) (zi 0)) ν (zupl ν 102 (288 + n) (zl 0)) := by
  obtain ⟨hY, hN, e6, hM, hB, e100, e101⟩ := hP
  have fn : frN Y (zup (zup Y 104 (288 + n) (zi 0)) 103 (288 + n) (zi 0)) ν (zupl ν 102 (288 + n) (zl 0)) := frN_upl (frN_up (frN_up (frN_rf Y ν) (by omega)) (by omega)) (by omega)
  exact ⟨⟨CcY_n hY fn, NY_n hN fn, e6, hM, mm_start hB e100 e101 e⟩, fn⟩
theorem line_t (S : Strm g L K pl nn ty va) (hL : L ≤ 800) (hg : ∀ i, 0 ≤ g i ∧ g i ≤ 255) (hNP : NP sy sn st) {k : Nat} (hk : k ≤ K) {n gg : Nat} (hn : n < 24) (hgg : gg < 8) {ln : Nat → Ln} (eg : (ln n).2.1 = (gg : Int)) (hs : 0 ≤ (ln n).1 ∧ (ln n).1 ≤ 2) (e : (ln n).2.2 = (0, 0, [])) (hm3 : ∀ i, i < n → (ln i).2.2.2.2.length ≤ 3) (hm2 : (mkF ln (bkF ln n) (n + 1)).length ≤ 2) (x1 x2 : Int32) :
    TlO g L K pl nn ty va sy sn st ln n (CPd K pl ty va sy sn st ln n k) (NPs g L pl nn ty va sy sn st ln n k) (fun d => zE zc_X1_readLine (zF zT0 (d + 5)) 152 [.ref 11, .int x1, .int x2] [.int (zi (sy gg : Int)), .int (zi (n : Int)), .ref 11]) (fun d => zE zc_X12_readLine (zF zT0 (d + 5)) 77 [.ref 92, .int (zi ((288 + n : Nat) : Int))] []) := by
  have C0 : ∀ (d len : Nat) (M M' : zMu) (ν : zNu), zF zT0 (d + 5) 17 [.ref 11, .int (zi (n : Int)), .int (zi (sy gg : Int))] (zm len M ν) = some (.int (zi 0), zm len M' ν) → zE zc_X1_readLine (zF zT0 (d + 5)) 152 [.ref 11, .int x1, .int x2] [.int (zi (sy gg : Int)), .int (zi (n : Int)), .ref 11] (zm len M ν) = some (.int (zi 0), zm len M' ν) := fun d len M M' ν A => by
    rw [B_X1_readLine_152, A, zbi_some, B_X1_readLine_155, if_pos zz_0]
    rfl
  have C1 : ∀ (d len : Nat) (M M' : zMu) (ν : zNu), zF zT0 (d + 5) 17 [.ref 11, .int (zi (n : Int)), .int (zi (sy gg : Int))] (zm len M ν) = some (.int (zi 1), zm len M' ν) → zE zc_X1_readLine (zF zT0 (d + 5)) 152 [.ref 11, .int x1, .int x2] [.int (zi (sy gg : Int)), .int (zi (n : Int)), .ref 11] (zm len M ν) = zE zc_X1_readLine (zF zT0 (d + 5)) 155 [.ref 11, .int x1, .int x2] [.int (zi 1)] (zm len M' ν) := fun d len M M' ν A => by
    rw [B_X1_readLine_152, A, zbi_some]
  have N0 : ∀ (d : Nat) (M M' : zM), zF zT0 (d + 5) 208 [.ref 92, .int (zi ((288 + n : Nat) : Int))] M = some (.int (zi (-1)), M') → ∀ len μ ν, M = zm len μ ν → ∀ μ' ν', M' = zm len μ' ν' → zE zc_X12_readLine (zF zT0 (d + 5)) 77 [.ref 92, .int (zi ((288 + n : Nat) : Int))] [] M = some (.int (zi (-1)), M') := fun d M M' A len μ ν h μ' ν' h' => by
    subst h
    subst h'
    rw [B_X12_readLine_77, A, zbi_some, B_X12_readLine_82, if_pos zz_m1]
    rfl
  have N1 : ∀ (d len : Nat) (μ : zMu) (ν : zNu) (M' : zM), zF zT0 (d + 5) 208 [.ref 92, .int (zi ((288 + n : Nat) : Int))] (zm len μ ν) = some (.int (zi 0), M') → zE zc_X12_readLine (zF zT0 (d + 5)) 77 [.ref 92, .int (zi ((288 + n : Nat) : Int))] [] (zm len μ ν) = zE zc_X12_readLine (zF zT0 (d + 5)) 82 [.ref 92, .int (zi ((288 + n : Nat) : Int))] [.int (zi 0)] M' := fun d len μ ν M' A => by
    rw [B_X12_readLine_77, A, zbi_some]
  by_cases h132 : kd ty va k = 132
  · have hk' := kd_lt S hk h132 (by decide)
    by_cases lo : loF ln (bkF ln n) (n + 1) = -1
    · obtain ⟨x, hx⟩ : ∃ x : Ln, x = ((ln n).1, (ln n).2.1, 1, 0, []) := ⟨_, rfl⟩
      have hxc : ((ln n).1, (ln n).2.1, (1 : Int), (ln n).2.2.2.1, (ln n).2.2.2.2) = x := by rw [hx, e]
      have eg' : (setL ln n x n).2.1 = (gg : Int) := by rw [setL_n, hx]; exact eg
      have hs' : 0 ≤ (setL ln n x n).1 ∧ (setL ln n x n).1 ≤ 2 := by rw [setL_n, hx]; exact hs
      have tc := tail_c S hL (show k + 1 ≤ K from hk') (sy := sy) (sn := sn) (st := st) hn hgg eg' hs' x1 x2
      have tn := tail_n S hL hg (show k + 1 ≤ K from hk') (sy := sy) (sn := sn) (st := st) hn hgg eg' hs'
      by_cases c : kd ty va (k + 1) = 59
      · refine Or.inr ⟨x, k + 2, kd_lt S (show k + 1 ≤ K from hk') c (by decide), ?_, ?_, fun d len M ν hP => ?_, fun d len Y ν r hP => ?_⟩
        · rw [hx]
          exact ⟨rfl, rfl, show (0 : Int) ≤ 1 by decide, show (1 : Int) ≤ 1 by decide, fun _ => rfl⟩
        · refine ⟨?_, ?_, ?_⟩
          · rw [setL_n, hx]
            show (0 : Int) ≤ 0 ∧ (0 : Int) ≤ 59399406
            decide
          · rw [setL_n, hx]
            exact fun p hp => by cases hp
          · rw [mk_set ln (x := x) (by rw [hx])]
            rw [mk_len] at hm2
            rw [hx]
            show _ + 0 ≤ 2
            omega
        · obtain ⟨M1, A, A1, A2⟩ := (c17l S hL hk' h132 hn d len hP ν (zi (sy gg : Int))).2 lo
          rw [hxc] at A1
          obtain ⟨M2, B, B1, B2⟩ := tc.1 c d len M1 ν A1
          exact ⟨M2, (C1 d len M M1 ν A).trans B, B1, frF_tr A2 B2⟩
        · obtain ⟨r1, Y1, ν1, A, A1, A2, A3⟩ := (n_lost S hL hg hk' h132 hn hgg eg e hm3 d len hP).2 lo
          rw [← hx] at A1
          obtain ⟨r2, Y2, ν2, B, B1, B2, B3⟩ := tn.1 c d len Y1 ν1 r1 A1
          exact ⟨r2, Y2, ν2, (N1 d len _ ν _ A).trans B, B1, fr4_tr A2 B2, frN_tr A3 B3⟩
      · refine Or.inl ⟨1, k + 1, hk', by omega, fun d len M ν hP => ?_, fun d len Y ν r hP => ?_⟩
        · obtain ⟨M1, A, A1, A2⟩ := (c17l S hL hk' h132 hn d len hP ν (zi (sy gg : Int))).2 lo
          rw [hxc] at A1
          obtain ⟨M2, B, B1, B2, B3⟩ := tc.2 c d len M1 ν A1
          exact ⟨M2, (C1 d len M M1 ν A).trans B, B1, B2, frF_tr A2 B3⟩
        · obtain ⟨r1, Y1, ν1, A, A1, A2, A3⟩ := (n_lost S hL hg hk' h132 hn hgg eg e hm3 d len hP).2 lo
          rw [← hx] at A1
          obtain ⟨r2, Y2, ν2, B, B1, B2, B3, B4⟩ := tn.2 c d len Y1 ν1 r1 A1
          exact ⟨r2, Y2, ν2, (N1 d len _ ν _ A).trans B, B1, B2, fr6_4 A2 B3, frN_tr A3 B4⟩
    · refine Or.inl ⟨3, k, hk, by omega, fun d len M ν hP => ?_, fun d len Y ν r hP => ?_⟩
      · obtain ⟨M1, A, A1⟩ := (c17l S hL hk' h132 hn d len hP ν (zi (sy gg : Int))).1 lo
        exact ⟨M1, C0 d len M M1 ν A, A1⟩
      · obtain ⟨r1, Y1, ν1, A, A1⟩ := (n_lost S hL hg hk' h132 hn hgg eg e hm3 d len hP).1 lo
        exact ⟨r1, Y1, ν1, N0 d _ _ A len _ _ rfl _ _ rfl, A1⟩
  · by_cases c : kd ty va k = 2 ∨ kd ty va k = 63
    · have hkK : k < K := by
        rcases c with c | c
        · exact kd_lt S hk c (by decide)
        · exact kd_lt S hk c (by decide)
      have hI : LI ln n ((6 - ((6 : Nat) : Int)) * 9899901) := by
        refine ⟨?_, ?_, hm2⟩
        · rw [e]
          decide
        · rw [e]
          exact fun p hp => by cases hp
      have O := num_c S hL hg hNP hkK c hn hgg (show 6 ≤ 6 by decide) (show 0 ≤ 6 by decide) eg hm3 hI (fun j k' ln' hj hk' eg' hm3' hI' => num_l S hL hg hNP hn hgg 6 j (0 + 1) k' ln' (by omega) (by omega) (by omega) hk' eg' hm3' hI')
      rcases O with ⟨ft, kf, c1, c2, C2, N2⟩ | ⟨x, kf, c1, ⟨c2, c3, c4⟩, c5, C2, N2⟩
      · refine Or.inl ⟨ft, kf, c1, c2, fun d len M ν hP => ?_, fun d len Y ν r hP => ?_⟩
        · obtain ⟨M', A, A1⟩ := C2 d len M ν hP
          exact ⟨M', C0 d len M M' ν ((c17 S hL hk h132 d len hP ν _ _).trans A), A1⟩
        · obtain ⟨hD, fn⟩ := ns_d hP e
          obtain ⟨r', Y', ν', A, A1, A2, A3, A4⟩ := N2 d len _ _ r hD
          exact ⟨r', Y', ν', N0 d _ _ (((n_st1 S hk h132 (gg := gg) hn hD.2.2.2.1 d len Y ν).1 c).trans A) len _ _ rfl _ _ rfl, A1, A2, A3, frN_tr fn A4⟩
      · have eg' : (setL ln n x n).2.1 = (gg : Int) := by rw [setL_n, c3]; exact eg
        have hs' : 0 ≤ (setL ln n x n).1 ∧ (setL ln n x n).1 ≤ 2 := by rw [setL_n, c2]; exact hs
        have tc := tail_c S hL c1 (sy := sy) (sn := sn) (st := st) hn hgg eg' hs' x1 x2
        have tn := tail_n S hL hg c1 (sy := sy) (sn := sn) (st := st) hn hgg eg' hs'
        have e221 : (ln n).2.2.1 = 0 := by rw [e]
        rcases C2 with ⟨y, C2⟩ | ⟨y, C2⟩
        · refine Or.inr ⟨x, kf + 1, kd_lt S c1 y (by decide), ⟨c2, c3, by omega, by omega, fun w => absurd w (by omega)⟩, c5, fun d len M ν hP => ?_, fun d len Y ν r hP => ?_⟩
          · obtain ⟨M1, A, A1, A2⟩ := C2 d len M ν hP
            obtain ⟨M2, B, B1, B2⟩ := tc.1 y d len M1 ν A1
            exact ⟨M2, (C1 d len M M1 ν ((c17 S hL hk h132 d len hP ν _ _).trans A)).trans B, B1, frF_tr A2 B2⟩
          · obtain ⟨hD, fn⟩ := ns_d hP e
            obtain ⟨r1, Y1, ν1, A, A1, A2, A3⟩ := N2 d len _ _ r hD
            obtain ⟨r2, Y2, ν2, B, B1, B2, B3⟩ := tn.1 y d len Y1 ν1 r1 A1
            exact ⟨r2, Y2, ν2, (N1 d len _ ν _ (((n_st1 S hk h132 (gg := gg) hn hD.2.2.2.1 d len Y ν).1 c).trans A)).trans B, B1, fr4_tr A2 B2, frN_tr fn (frN_tr A3 B3)⟩
        · refine Or.inl ⟨1, kf, c1, by omega, fun d len M ν hP => ?_, fun d len Y ν r hP => ?_⟩
          · obtain ⟨M1, A, A1⟩ := C2 d len M ν hP
            exact ⟨M1, C0 d len M M1 ν ((c17 S hL hk h132 d len hP ν _ _).trans A), A1⟩
          · obtain ⟨hD, fn⟩ := ns_d hP e
            obtain ⟨r1, Y1, ν1, A, A1, A2, A3⟩ := N2 d len _ _ r hD
            obtain ⟨r2, Y2, ν2, B, B1, B2, B3, B4⟩ := tn.2 y d len Y1 ν1 r1 A1
            exact ⟨r2, Y2, ν2, (N1 d len _ ν _ (((n_st1 S hk h132 (gg := gg) hn hD.2.2.2.1 d len Y ν).1 c).trans A)).trans B, B1, B2, fr6_4 A2 B3, frN_tr fn (frN_tr A3 B4)⟩
    · refine Or.inl ⟨1, k, hk, by omega, fun d len M ν hP => ?_, fun d len Y ν r hP => ?_⟩
      · obtain ⟨M', B, B1⟩ := cnt_x S hL hk (fun q => c (Or.inl q)) (fun q => c (Or.inr q)) d len hP.1 ν (zi (n : Int)) (zi (sy gg : Int)) (zi ((6 : Nat) : Int))
        refine ⟨M', C0 d len M M' ν ((c17 S hL hk h132 d len hP ν _ _).trans ?_), B1⟩
        rw [B_X1_readNumeral_51, B, zbi_some, B_X1_readNumeral_58, if_pos zz_0]
        rfl
      · obtain ⟨hD, fn⟩ := ns_d hP e
        obtain ⟨r', A, A1, A2, A3⟩ := (n_st1 S hk h132 (gg := gg) hn hD.2.2.2.1 d len Y ν).2 (fun q => c (Or.inl q)) (fun q => c (Or.inr q))
        exact ⟨r', _, _, N0 d _ _ A len _ _ rfl _ _ rfl, A1, A2, A3, fn⟩
end LT3

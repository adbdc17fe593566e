/-! TABLET read: all its LINES, both sides at once -/
theorem zz288 (n : Nat) : (288 : Int32) + zi (n : Int) = zi ((288 + n : Nat) : Int) := by
  rw [show (288 : Int32) = zi 288 from rfl, zi_add]
  rfl
section RD
variable {g : Nat → Int} {L K : Nat} {pl nn : Nat → Nat} {ty va : Nat → Int} {sy sn : Nat → Nat} {st : Nat → Nat → Int}
theorem line_j (S : Strm g L K pl nn ty va) (hL : L ≤ 800) (hg : ∀ i, 0 ≤ g i ∧ g i ≤ 255) (hNP : NP sy sn st) {k : Nat} (hk : k < K) (hkd : kd ty va k = 128 ∨ kd ty va k = 129 ∨ kd ty va k = 130) {n : Nat} (hn : n < 24) {ln : Nat → Ln} (hV : LV ln n) :
    (∃ ft kf, kf ≤ K ∧ (1 ≤ ft ∧ ft ≤ 3) ∧ Cfl (CPb K pl ty va sy sn st ln n k) (fun d => zF zT0 (d + 6) 13 [.ref 11]) ft (pl kf) ∧ Nfl (NPb g L pl nn ty va sy sn st ln n k) (fun d => zF zT0 (d + 6) 209 [.ref 92, .int (zi ((288 + n : Nat) : Int))]) ft (pl kf)) ∨
    ∃ (x : Ln) (kf : Nat), kf ≤ K ∧ LV (setL ln n x) (n + 1) ∧ Cok (CPb K pl ty va sy sn st ln n k) (fun d => zF zT0 (d + 6) 13 [.ref 11]) (CPb K pl ty va sy sn st (setL ln n x) (n + 1) kf) ∧ Nok (NPb g L pl nn ty va sy sn st ln n k) (fun d => zF zT0 (d + 6) 209 [.ref 92, .int (zi ((288 + n : Nat) : Int))]) 0 (NPb g L pl nn ty va sy sn st (setL ln n x) (n + 1) kf) := by
  by_cases h1 : kd ty va (k + 1) = 131
  · have hk1 := kd_lt S (show k + 1 ≤ K from hk) h1 (by decide)
    by_cases h2 : kd ty va (k + 2) = 2
    · have hk2 := kd_lt S (show k + 2 ≤ K from hk1) h2 (by decide)
      have vb : 0 ≤ va (k + 2) ∧ va (k + 2) ≤ 9999 := by
        have := (kd_c S (show k + 2 ≤ K from hk1)).1
        unfold Kc at this
        omega
      by_cases h7 : 7 < va (k + 2)
      · refine Or.inl ⟨2, k + 2, hk1, by omega, fun d len M ν hP => ?_, fun d len Y ν r hP => ?_⟩
        · exact ((ln_c S hL hk hkd hn d len hP ν).2 h1).2.1 h2 h7
        · exact ((ln_m S hL hg hk hkd hn d len hP).2 h1).2.1 h2 h7
      · obtain ⟨gg, hgg⟩ : ∃ gg : Nat, va (k + 2) = (gg : Int) := ⟨(va (k + 2)).toNat, by omega⟩
        have g8 : gg < 8 := by omega
        obtain ⟨x0, hx0⟩ : ∃ x0 : Ln, x0 = (kd ty va k - 128, (gg : Int), 0, 0, []) := ⟨_, rfl⟩
        have lo : ∀ i, i < n → (setL ln n x0) i = ln i := fun i hi => setL_o ln _ (by omega)
        have hm2 : (mkF (setL ln n x0) (bkF (setL ln n x0) n) (n + 1)).length ≤ 2 := by
          rw [mk_len, mkF_c _ n lo, setL_n, hx0]
          exact hV.2 _
        have T := line_t S hL hg hNP (show k + 3 ≤ K from hk2) hn g8 (ln := setL ln n x0) (by rw [setL_n, hx0]) (by
          rw [setL_n, hx0]
          show 0 ≤ kd ty va k - 128 ∧ kd ty va k - 128 ≤ 2
          omega) (by rw [setL_n, hx0]) (fun i hi => by
          rw [lo i hi]
          have := (hV.1 i hi).2.2.2.2.2.1
          omega) hm2 (zi (kd ty va k)) (zi (gg : Int))
        rcases T with ⟨ft, kf, c1, c2, C2, N2⟩ | ⟨x, kf, c1, ⟨c2, c3, c4, c5, c7⟩, c6, C2, N2⟩
        · refine Or.inl ⟨ft, kf, c1, c2, fun d len M ν hP => ?_, fun d len Y ν r hP => ?_⟩
          · obtain ⟨M1, A, A1, A2⟩ := ((ln_c S hL hk hkd hn d len hP ν).2 h1).2.2 h2 gg g8 hgg
            rw [← hx0] at A1
            obtain ⟨M2, B, B1, B2, B3⟩ := C2 d len M1 ν A1
            exact ⟨M2, A.trans B, B1, B2, frF_tr A2 B3⟩
          · obtain ⟨r1, Y1, ν1, A, A1, A2, A3⟩ := ((ln_m S hL hg hk hkd hn d len hP).2 h1).2.2 h2 gg g8 hgg
            rw [← hx0] at A1
            obtain ⟨r2, Y2, ν2, B, B1, B2, B3, B4⟩ := N2 d len Y1 ν1 r1 A1
            exact ⟨r2, Y2, ν2, A.trans B, B1, B2, fr6_4 A2 B3, frN_tr A3 B4⟩
        · rw [setL_n, hx0] at c2 c3
          rw [setL_S] at c6 C2 N2
          have c2 : x.1 = kd ty va k - 128 := c2
          have c3 : x.2.1 = (gg : Int) := c3
          refine Or.inr ⟨x, kf, c1, LV_S hV (by omega) (by omega) ⟨c4, c5⟩ c7 c6, fun d len M ν hP => ?_, fun d len Y ν r hP => ?_⟩
          · obtain ⟨M1, A, A1, A2⟩ := ((ln_c S hL hk hkd hn d len hP ν).2 h1).2.2 h2 gg g8 hgg
            rw [← hx0] at A1
            obtain ⟨M2, B, B1, B2⟩ := C2 d len M1 ν A1
            exact ⟨M2, A.trans B, B1, frF_tr A2 B2⟩
          · obtain ⟨r1, Y1, ν1, A, A1, A2, A3⟩ := ((ln_m S hL hg hk hkd hn d len hP).2 h1).2.2 h2 gg g8 hgg
            rw [← hx0] at A1
            obtain ⟨r2, Y2, ν2, B, B1, B2, B3⟩ := N2 d len Y1 ν1 r1 A1
            exact ⟨r2, Y2, ν2, A.trans B, B1, fr4_tr A2 B2, frN_tr A3 B3⟩
    · refine Or.inl ⟨1, k + 2, hk1, by omega, fun d len M ν hP => ?_, fun d len Y ν r hP => ?_⟩
      · exact ((ln_c S hL hk hkd hn d len hP ν).2 h1).1 h2
      · exact ((ln_m S hL hg hk hkd hn d len hP).2 h1).1 h2
  · refine Or.inl ⟨1, k + 1, hk, by omega, fun d len M ν hP => ?_, fun d len Y ν r hP => ?_⟩
    · exact (ln_c S hL hk hkd hn d len hP ν).1 h1
    · exact (ln_m S hL hg hk hkd hn d len hP).1 h1
def RdO (g : Nat → Int) (L K : Nat) (pl nn : Nat → Nat) (ty va : Nat → Int) (sy sn : Nat → Nat) (st : Nat → Nat → Int) (ln : Nat → Ln) (n k : Nat) : Prop :=
  (∃ ft kf, kf ≤ K ∧ (1 ≤ ft ∧ ft ≤ 3) ∧ Cfl (CPb K pl ty va sy sn st ln n k) (fun d => zE zc_X1_read (zF zT0 (d + 6)) 28 [.ref 11, .int (zi (n : Int))] []) ft (pl kf) ∧ Nfl (NPb g L pl nn ty va sy sn st ln n k) (fun d => zE zc_X12_readTablet (zF zT0 (d + 6)) 39 [.ref 92, .int (zi (n : Int))] []) ft (pl kf)) ∨
  ∃ (ln' : Nat → Ln) (n' : Nat), n' ≤ 24 ∧ LV ln' n' ∧ (∀ (d len : Nat) (M : zMu) (ν : zNu), CPb K pl ty va sy sn st ln n k M → ∃ (M' : zMu) (x : Int32), zE zc_X1_read (zF zT0 (d + 6)) 28 [.ref 11, .int (zi (n : Int))] [] (zm len M ν) = zE zc_X1_read (zF zT0 (d + 6)) 59 [.ref 11, .int x] [] (zm len M' ν) ∧ CPb K pl ty va sy sn st ln' n' K M' ∧ frF M M') ∧ Nok (NPb g L pl nn ty va sy sn st ln n k) (fun d => zE zc_X12_readTablet (zF zT0 (d + 6)) 39 [.ref 92, .int (zi (n : Int))] []) (n' : Int) (NPb g L pl nn ty va sy sn st ln' n' K)
/-- a token that begins no LINE -/
theorem c_bad (S : Strm g L K pl nn ty va) (hL : L ≤ 800) {k : Nat} (hk : k < K) {n : Nat} {ln : Nat → Ln} (hn : n ≤ 24) (d len : Nat) {M : zMu} (hP : CPb K pl ty va sy sn st ln n k M) (ν : zNu) : (kd ty va k ≠ 128 → kd ty va k ≠ 129 → kd ty va k ≠ 130 → ∃ M', zF zT0 (d + 6) 13 [.ref 11] (zm len M ν) = some (.int (zi 0), zm len M' ν) ∧ M' 6 7 = zi 1 ∧ M' 6 8 = zi (pl k : Int) ∧ frF M M') ∧ (kd ty va k = 128 ∨ kd ty va k = 129 ∨ kd ty va k = 130 → n = 24 → ∃ M', zF zT0 (d + 6) 13 [.ref 11] (zm len M ν) = some (.int (zi 0), zm len M' ν) ∧ M' 6 7 = zi 3 ∧ M' 6 8 = zi (pl k : Int) ∧ frF M M') := by
  have hKL := S.2.1.2.2.2
  have x0 : 0 ≤ kd ty va k ∧ kd ty va k ≤ 200 := by have := (kd_c S (Nat.le_of_lt hk)).1; unfold Kc at this; omega
  have A := g_kind (Nat.le_of_lt hk) (by omega) (d + 4) len hP.1 ν
  have e11 := hP.2.2.1
  refine ⟨fun h1 h2 h3 => ?_, fun h h24 => ?_⟩
  · obtain ⟨M', T, T1⟩ := g_fail (Nat.le_of_lt hk) (by omega) (d + 4) len hP.1 ν 1
    refine ⟨M', ?_, T1⟩
    rw [B_X1_readLine]
    simp (disch := omega) only [A, B_X1_readLine_7, zz128, zz129, zz130, h1, h2, h3, T, B_X1_readLine_37, zbi_some, zbl_some, zbv_some, zbi_none, zbl_none, zbv_none, zbi_ite, zbl_ite, zbv_ite, zbZ, zbO, zc_lt, zc_le, zc_ge, zc_gt, zc_eq, zk0, zk1, zk2, zk3, zk4, zk5, zk6, zk7, zk8, zk9, zk10, zk11, zk12, zk14, zk15, zk16, zk17, zk19, zk20, zk21, zk24, zk25, zk30, zk32, zk36, zk40, zk45, zk50, zk64, zk97, zk99, zk100, zk102, zk122, zk128, zk255, zk800, zk801, zk900, zk999, zk1000, zk1997, zk9999, zk10000, zk100000, zk99999, zk9999999, zk999999999, zk2147483647, zlc0, zlc1, zlc2, zlc3, zlc4, zlc23, zlc99, zlc100, zlc9999999, zlc999999999999, zlc1073741824, zi_neg, zi_add, zi_sub, zi_mul, zl_neg, zl_add, zl_sub, zl_mul, zi_toInt, zi_nat, zi_le, zi_lt, zi_eq, zl_le, zl_lt, zl_eq, zl_toInt, zl_of32, zi_of64, zi_div, zl_div, zmodI, ↓reduceIte, zTle, zFle, zTlt, zFlt, zTeq, zFeq, if_true, if_false, and_self, and_true, true_and, and_false, false_and, or_self, or_true, true_or, or_false, false_or, not_true_eq_false, not_false_eq_true, zcastA, zcastL, znatC, zab, Int.reduceAdd, Int.reduceSub, Int.reduceMul, Int.reduceNeg, Int.reduceToNat, Nat.reduceAdd]
  · obtain ⟨M', T, T1⟩ := g_fail (Nat.le_of_lt hk) (by omega) (d + 4) len hP.1 ν 3
    refine ⟨M', ?_, T1⟩
    subst h24
    have e11 : M 11 2 = zi 24 := e11
    rcases h with h | h | h <;> rw [h] at A <;> rw [B_X1_readLine] <;> simp (disch := omega) only [A, B_X1_readLine_7, zz128, zz129, zz130, B_X1_readLine_38, e11, T, B_X1_readLine_55, zbi_some, zbl_some, zbv_some, zbi_none, zbl_none, zbv_none, zbi_ite, zbl_ite, zbv_ite, zbZ, zbO, zc_lt, zc_le, zc_ge, zc_gt, zc_eq, zk0, zk1, zk2, zk3, zk4, zk5, zk6, zk7, zk8, zk9, zk10, zk11, zk12, zk14, zk15, zk16, zk17, zk19, zk20, zk21, zk24, zk25, zk30, zk32, zk36, zk40, zk45, zk50, zk64, zk97, zk99, zk100, zk102, zk122, zk128, zk255, zk800, zk801, zk900, zk999, zk1000, zk1997, zk9999, zk10000, zk100000, zk99999, zk9999999, zk999999999, zk2147483647, zlc0, zlc1, zlc2, zlc3, zlc4, zlc23, zlc99, zlc100, zlc9999999, zlc999999999999, zlc1073741824, zi_neg, zi_add, zi_sub, zi_mul, zl_neg, zl_add, zl_sub, zl_mul, zi_toInt, zi_nat, zi_le, zi_lt, zi_eq, zl_le, zl_lt, zl_eq, zl_toInt, zl_of32, zi_of64, zi_div, zl_div, zmodI, ↓reduceIte, zTle, zFle, zTlt, zFlt, zTeq, zFeq, if_true, if_false, and_self, and_true, true_and, and_false, false_and, or_self, or_true, true_or, or_false, false_or, not_true_eq_false, not_false_eq_true, zcastA, zcastL, znatC, zab, Int.reduceAdd, Int.reduceSub, Int.reduceMul, Int.reduceNeg, Int.reduceToNat, Nat.reduceAdd]
theorem read_l (S : Strm g L K pl nn ty va) (hL : L ≤ 800) (hg : ∀ i, 0 ≤ g i ∧ g i ≤ 255) (hNP : NP sy sn st) : ∀ m n k : Nat, ∀ ln : Nat → Ln, n + m = 24 → k ≤ K → LV ln n → RdO g L K pl nn ty va sy sn st ln n k := by
  intro m
  induction m with
  | zero => ?_
  | succ m ih => ?_
  all_goals
    intro n k ln hm hk hV
    have hKL := S.2.1.2.2.2
    have x0 : 0 ≤ kd ty va k ∧ kd ty va k ≤ 200 := by have := (kd_c S hk).1; unfold Kc at this; omega
    have C28 : ∀ (d len : Nat) (M : zMu) (ν : zNu), CPb K pl ty va sy sn st ln n k M → zE zc_X1_read (zF zT0 (d + 6)) 28 [.ref 11, .int (zi (n : Int))] [] (zm len M ν) = if kd ty va k = 0 then zE zc_X1_read (zF zT0 (d + 6)) 59 [.ref 11, .int (zi (n : Int))] [] (zm len M ν) else zbi (zF zT0 (d + 6) 13 [.ref 11] (zm len M ν)) (fun w' M' => zE zc_X1_read (zF zT0 (d + 6)) 48 [.ref 11, .int (zi (n : Int))] [.int w'] M') := fun d len M ν hP => by
      have A := g_kind hk (by omega) (d + 5) len hP.1 ν
      rw [B_X1_read_28]
      by_cases z : kd ty va k = 0
      · rw [if_pos z]
        simp (disch := omega) only [A, B_X1_read_41, z, zbi_some, zbl_some, zbv_some, zbi_none, zbl_none, zbv_none, zbi_ite, zbl_ite, zbv_ite, zbZ, zbO, zc_lt, zc_le, zc_ge, zc_gt, zc_eq, zk0, zk1, zk2, zk3, zk4, zk5, zk6, zk7, zk8, zk9, zk10, zk11, zk12, zk14, zk15, zk16, zk17, zk19, zk20, zk21, zk24, zk25, zk30, zk32, zk36, zk40, zk45, zk50, zk64, zk97, zk99, zk100, zk102, zk122, zk128, zk255, zk800, zk801, zk900, zk999, zk1000, zk1997, zk9999, zk10000, zk100000, zk99999, zk9999999, zk999999999, zk2147483647, zlc0, zlc1, zlc2, zlc3, zlc4, zlc23, zlc99, zlc100, zlc9999999, zlc999999999999, zlc1073741824, zi_neg, zi_add, zi_sub, zi_mul, zl_neg, zl_add, zl_sub, zl_mul, zi_toInt, zi_nat, zi_le, zi_lt, zi_eq, zl_le, zl_lt, zl_eq, zl_toInt, zl_of32, zi_of64, zi_div, zl_div, zmodI, ↓reduceIte, zTle, zFle, zTlt, zFlt, zTeq, zFeq, if_true, if_false, and_self, and_true, true_and, and_false, false_and, or_self, or_true, true_or, or_false, false_or, not_true_eq_false, not_false_eq_true, zcastA, zcastL, znatC, zab, Int.reduceAdd, Int.reduceSub, Int.reduceMul, Int.reduceNeg, Int.reduceToNat, Nat.reduceAdd]
      · rw [if_neg z]
        simp (disch := omega) only [A, B_X1_read_41, z, zbi_some, zbl_some, zbv_some, zbi_none, zbl_none, zbv_none, zbi_ite, zbl_ite, zbv_ite, zbZ, zbO, zc_lt, zc_le, zc_ge, zc_gt, zc_eq, zk0, zk1, zk2, zk3, zk4, zk5, zk6, zk7, zk8, zk9, zk10, zk11, zk12, zk14, zk15, zk16, zk17, zk19, zk20, zk21, zk24, zk25, zk30, zk32, zk36, zk40, zk45, zk50, zk64, zk97, zk99, zk100, zk102, zk122, zk128, zk255, zk800, zk801, zk900, zk999, zk1000, zk1997, zk9999, zk10000, zk100000, zk99999, zk9999999, zk999999999, zk2147483647, zlc0, zlc1, zlc2, zlc3, zlc4, zlc23, zlc99, zlc100, zlc9999999, zlc999999999999, zlc1073741824, zi_neg, zi_add, zi_sub, zi_mul, zl_neg, zl_add, zl_sub, zl_mul, zi_toInt, zi_nat, zi_le, zi_lt, zi_eq, zl_le, zl_lt, zl_eq, zl_toInt, zl_of32, zi_of64, zi_div, zl_div, zmodI, ↓reduceIte, zTle, zFle, zTlt, zFlt, zTeq, zFeq, if_true, if_false, and_self, and_true, true_and, and_false, false_and, or_self, or_true, true_or, or_false, false_or, not_true_eq_false, not_false_eq_true, zcastA, zcastL, znatC, zab, Int.reduceAdd, Int.reduceSub, Int.reduceMul, Int.reduceNeg, Int.reduceToNat, Nat.reduceAdd]
    by_cases z : kd ty va k = 0
    · have kK : k = K := (kd_c S hk).2.mp z
      subst kK
      refine Or.inr ⟨ln, n, by omega, hV, fun d len M ν hP => ⟨M, zi (n : Int), ?_, hP, frF_rf M⟩, fun d len Y ν r hP => ⟨r, Y, ν, ?_, hP, fun _ _ _ _ _ => rfl, frN_rf _ _⟩⟩
      · rw [C28 d len M ν hP, if_pos z]
      · obtain ⟨x9, x10, n1, n2, n3⟩ := MS_n S hk hP.2.2.2.1
        have : x9 = 0 := by unfold Mt at n1; omega
        subst this
        show zE zc_X12_readTablet (zF zT0 (d + 6)) 39 _ [] (zm len (zrw Y 92 r) ν) = _
        rw [B_X12_readTablet_39]
        simp (disch := omega) only [zrw_s, n2, zbi_some, zbl_some, zbv_some, zbi_none, zbl_none, zbv_none, zbi_ite, zbl_ite, zbv_ite, zbZ, zbO, zc_lt, zc_le, zc_ge, zc_gt, zc_eq, zk0, zk1, zk2, zk3, zk4, zk5, zk6, zk7, zk8, zk9, zk10, zk11, zk12, zk14, zk15, zk16, zk17, zk19, zk20, zk21, zk24, zk25, zk30, zk32, zk36, zk40, zk45, zk50, zk64, zk97, zk99, zk100, zk102, zk122, zk128, zk255, zk800, zk801, zk900, zk999, zk1000, zk1997, zk9999, zk10000, zk100000, zk99999, zk9999999, zk999999999, zk2147483647, zlc0, zlc1, zlc2, zlc3, zlc4, zlc23, zlc99, zlc100, zlc9999999, zlc999999999999, zlc1073741824, zi_neg, zi_add, zi_sub, zi_mul, zl_neg, zl_add, zl_sub, zl_mul, zi_toInt, zi_nat, zi_le, zi_lt, zi_eq, zl_le, zl_lt, zl_eq, zl_toInt, zl_of32, zi_of64, zi_div, zl_div, zmodI, ↓reduceIte, zTle, zFle, zTlt, zFlt, zTeq, zFeq, if_true, if_false, and_self, and_true, true_and, and_false, false_and, or_self, or_true, true_or, or_false, false_or, not_true_eq_false, not_false_eq_true, zcastA, zcastL, znatC, zab, Int.reduceAdd, Int.reduceSub, Int.reduceMul, Int.reduceNeg, Int.reduceToNat, Nat.reduceAdd]
    · have hk' : k < K := by
        rcases Nat.lt_or_ge k K with w | w
        · exact w
        · exact absurd ((kd_c S hk).2.mpr (by omega)) z
      have C13 : ∀ (ft : Int) (p : Nat), (∀ (d len : Nat) (M : zMu) (ν : zNu), CPb K pl ty va sy sn st ln n k M → ∃ M', zF zT0 (d + 6) 13 [.ref 11] (zm len M ν) = some (.int (zi 0), zm len M' ν) ∧ M' 6 7 = zi ft ∧ M' 6 8 = zi (p : Int) ∧ frF M M') → Cfl (CPb K pl ty va sy sn st ln n k) (fun d => zE zc_X1_read (zF zT0 (d + 6)) 28 [.ref 11, .int (zi (n : Int))] []) ft p := fun ft p H d len M ν hP => by
        obtain ⟨M', A, A1⟩ := H d len M ν hP
        refine ⟨M', ?_, A1⟩
        show zE zc_X1_read (zF zT0 (d + 6)) 28 _ [] (zm len M ν) = _
        rw [C28 d len M ν hP, if_neg z, A, zbi_some, B_X1_read_48, if_pos zz_0]
        rfl
      by_cases w : kd ty va k = 128 ∨ kd ty va k = 129 ∨ kd ty va k = 130
      · have kb : 128 ≤ kd ty va k ∧ kd ty va k ≤ 130 := by omega
        have N39 : ∀ (d len : Nat) (Y : zMu) (ν : zNu) (r : Nat → Int32), NPb g L pl nn ty va sy sn st ln n k Y ν r → zE zc_X12_readTablet (zF zT0 (d + 6)) 39 [.ref 92, .int (zi (n : Int))] [] (zm len (zrw Y 92 r) ν) = if zi (n : Int) = (24 : Int32) then zbi (zF zT0 (d + 6) 203 [.ref 92, .int 3] (zm len (zrw Y 92 r) ν)) (fun w' M' => zE zc_X12_readTablet (zF zT0 (d + 6)) 79 [.ref 92, .int (zi (n : Int))] [.int w'] M') else zbi (zF zT0 (d + 6) 209 [.ref 92, .int (zi ((288 + n : Nat) : Int))] (zm len (zrw Y 92 r) ν)) (fun w' M' => zE zc_X12_readTablet (zF zT0 (d + 6)) 89 [.ref 92, .int (zi (n : Int))] [.int w'] M') := fun d len Y ν r hP => by
          obtain ⟨x9, x10, n1, n2, n3⟩ := MS_n S hk hP.2.2.2.1
          have : x9 = 2 ∧ x10 = kd ty va k - 128 := by unfold Mt at n1; omega
          obtain ⟨h9, h10⟩ := this
          subst h9
          subst h10
          have n3 := n3 (by omega)
          have c1 : ¬ zi 2 = (0 : Int32) := by decide
          have c2 : zi (kd ty va k - 128) ≤ (2 : Int32) := by
            rw [show (2 : Int32) = zi 2 from rfl, zi_le (by omega)]
            omega
          rw [B_X12_readTablet_39, zrw_s, n2, n3, if_neg c1, if_pos (show zi 2 = (2 : Int32) from rfl), if_pos c2, zz288]
        by_cases n24 : n = 24
        · refine Or.inl ⟨3, k, hk, by omega, C13 3 (pl k) (fun d len M ν hP => (c_bad S hL hk' (by omega) d len hP ν).2 w n24), fun d len Y ν r hP => ?_⟩
          obtain ⟨r', N, P1, P2, P3⟩ := n_fails hP.2.2.2.1 (d + 4) len Y ν 3
          refine ⟨r', Y, ν, ?_, P1, P2, fun i _ _ _ _ i12 i13 => P3 i i12 i13, frN_rf _ _⟩
          show zE zc_X12_readTablet (zF zT0 (d + 6)) 39 _ [] (zm len (zrw Y 92 r) ν) = _
          rw [N39 d len Y ν r hP, if_pos (show zi (n : Int) = (24 : Int32) by rw [n24]; rfl), show zF zT0 (d + 6) 203 [.ref 92, .int 3] _ = _ from N, zbi_some, B_X12_readTablet_79]
        · have c24 : ¬ zi (n : Int) = (24 : Int32) := fun q => by
            have q : zi (n : Int) = zi 24 := q
            rw [zi_eq (by omega)] at q
            omega
          rcases line_j S hL hg hNP hk' w (show n < 24 by omega) hV with ⟨ft, kf, c1, c2, C2, N2⟩ | ⟨x, kf, c1, c2, C2, N2⟩
          · refine Or.inl ⟨ft, kf, c1, c2, C13 ft (pl kf) C2, fun d len Y ν r hP => ?_⟩
            obtain ⟨r', Y', ν', A, A1⟩ := N2 d len Y ν r hP
            refine ⟨r', Y', ν', ?_, A1⟩
            show zE zc_X12_readTablet (zF zT0 (d + 6)) 39 _ [] (zm len (zrw Y 92 r) ν) = _
            rw [N39 d len Y ν r hP, if_neg c24, show zF zT0 (d + 6) 209 _ _ = _ from A, zbi_some, B_X12_readTablet_89, if_pos zz_m1]
            rfl
          · have CS : ∀ (d len : Nat) (M : zMu) (ν : zNu), CPb K pl ty va sy sn st ln n k M → ∃ M', zE zc_X1_read (zF zT0 (d + 6)) 28 [.ref 11, .int (zi (n : Int))] [] (zm len M ν) = zE zc_X1_read (zF zT0 (d + 6)) 28 [.ref 11, .int (zi ((n + 1 : Nat) : Int))] [] (zm len M' ν) ∧ CPb K pl ty va sy sn st (setL ln n x) (n + 1) kf M' ∧ frF M M' := fun d len M ν hP => by
              obtain ⟨M', A, A1⟩ := C2 d len M ν hP
              refine ⟨M', ?_, A1⟩
              rw [C28 d len M ν hP, if_neg z, show zF zT0 (d + 6) 13 _ _ = _ from A, zbi_some, B_X1_read_48, if_neg zz_10, show (1 : Int32) = zi 1 from rfl, zi_add]
              rfl
            have NS : ∀ (d len : Nat) (Y : zMu) (ν : zNu) (r : Nat → Int32), NPb g L pl nn ty va sy sn st ln n k Y ν r → ∃ r' Y' ν', zE zc_X12_readTablet (zF zT0 (d + 6)) 39 [.ref 92, .int (zi (n : Int))] [] (zm len (zrw Y 92 r) ν) = zE zc_X12_readTablet (zF zT0 (d + 6)) 39 [.ref 92, .int (zi ((n + 1 : Nat) : Int))] [] (zm len (zrw Y' 92 r') ν') ∧ NPb g L pl nn ty va sy sn st (setL ln n x) (n + 1) kf Y' ν' r' ∧ fr4 r r' ∧ frN Y Y' ν ν' := fun d len Y ν r hP => by
              obtain ⟨r', Y', ν', A, A1⟩ := N2 d len Y ν r hP
              refine ⟨r', Y', ν', ?_, A1⟩
              rw [N39 d len Y ν r hP, if_neg c24, show zF zT0 (d + 6) 209 _ _ = _ from A, zbi_some, B_X12_readTablet_89, if_neg zz_m0, show (1 : Int32) = zi 1 from rfl, zi_add]
              rfl
            have O : RdO g L K pl nn ty va sy sn st (setL ln n x) (n + 1) kf := by
              first
                | exact absurd hm (by omega)
                | exact ih (n + 1) kf (setL ln n x) (by omega) c1 c2
            rcases O with ⟨ft, kf', d1, d2, C3, N3⟩ | ⟨ln', n', d1, d2, C3, N3⟩
            · refine Or.inl ⟨ft, kf', d1, d2, fun d len M ν hP => ?_, fun d len Y ν r hP => ?_⟩
              · obtain ⟨M1, A, A1, A2⟩ := CS d len M ν hP
                obtain ⟨M2, B, B1, B2, B3⟩ := C3 d len M1 ν A1
                exact ⟨M2, A.trans B, B1, B2, frF_tr A2 B3⟩
              · obtain ⟨r1, Y1, ν1, A, A1, A2, A3⟩ := NS d len Y ν r hP
                obtain ⟨r2, Y2, ν2, B, B1, B2, B3, B4⟩ := N3 d len Y1 ν1 r1 A1
                exact ⟨r2, Y2, ν2, A.trans B, B1, B2, fr6_4 A2 B3, frN_tr A3 B4⟩
            · refine Or.inr ⟨ln', n', d1, d2, fun d len M ν hP => ?_, fun d len Y ν r hP => ?_⟩
              · obtain ⟨M1, A, A1, A2⟩ := CS d len M ν hP
                obtain ⟨M2, y, B, B1, B2⟩ := C3 d len M1 ν A1
                exact ⟨M2, y, A.trans B, B1, frF_tr A2 B2⟩
              · obtain ⟨r1, Y1, ν1, A, A1, A2, A3⟩ := NS d len Y ν r hP
                obtain ⟨r2, Y2, ν2, B, B1, B2, B3⟩ := N3 d len Y1 ν1 r1 A1
                exact ⟨r2, Y2, ν2, A.trans B, B1, fr4_tr A2 B2, frN_tr A3 B3⟩
      · refine Or.inl ⟨1, k, hk, by omega, C13 1 (pl k) (fun d len M ν hP => (c_bad S hL hk' (by omega) d len hP ν).1 (fun q => w (Or.inl q)) (fun q => w (Or.inr (Or.inl q))) (fun q => w (Or.inr (Or.inr q)))), fun d len Y ν r hP => ?_⟩
        obtain ⟨r', N, P1, P2, P3⟩ := n_fails hP.2.2.2.1 (d + 4) len Y ν 1
        obtain ⟨x9, x10, n1, n2, n3⟩ := MS_n S hk hP.2.2.2.1
        refine ⟨r', Y, ν, ?_, P1, P2, fun i _ _ _ _ i12 i13 => P3 i i12 i13, frN_rf _ _⟩
        show zE zc_X12_readTablet (zF zT0 (d + 6)) 39 _ [] (zm len (zrw Y 92 r) ν) = _
        have b9 : 1 ≤ x9 ∧ x9 ≤ 4 := by unfold Mt at n1; omega
        have c1 : ¬ zi x9 = (0 : Int32) := fun q => by
          have q : zi x9 = zi 0 := q
          rw [zi_eq (by omega)] at q
          omega
        rw [B_X12_readTablet_39, zrw_s, n2, if_neg c1]
        by_cases c2 : x9 = 2
        · have n3 := n3 (by omega)
          have b10 : 3 ≤ x10 ∧ x10 ≤ 100 := by unfold Mt at n1; omega
          have c3 : ¬ zi x10 ≤ (2 : Int32) := fun q => by
            rw [show (2 : Int32) = zi 2 from rfl, zi_le (by omega)] at q
            omega
          rw [c2, if_pos (show zi 2 = (2 : Int32) from rfl), n3, if_neg c3, show zF zT0 (d + 6) 203 [.ref 92, .int 1] _ = _ from N, zbi_some, B_X12_readTablet_67]
        · have c3 : ¬ zi x9 = (2 : Int32) := fun q => by
            have q : zi x9 = zi 2 := q
            rw [zi_eq (by omega)] at q
            exact c2 q
          rw [if_neg c3, show zF zT0 (d + 6) 203 [.ref 92, .int 1] _ = _ from N, zbi_some, B_X12_readTablet_67]
end RD

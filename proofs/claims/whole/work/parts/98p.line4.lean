/-! TABLET read: a LINE from its head, both sides at once -/
theorem zz128 : (128 : Int32) = zi 128 := rfl
theorem zz129 : (129 : Int32) = zi 129 := rfl
theorem zz130 : (130 : Int32) = zi 130 := rfl
theorem zz131 : (131 : Int32) = zi 131 := rfl
theorem mb_set {Y Y' : zMu} {ν : zNu} {ln : Nat → Ln} {n : Nat} (x : Ln) (h : MBd Y ν ln n) (e100 : ∀ i, i < n → Y' 100 (288 + i) = Y 100 (288 + i) ∧ Y' 101 (288 + i) = Y 101 (288 + i)) (e103 : Y' 103 = Y 103) (e104 : Y' 104 = Y 104) (e106 : Y' 106 = Y 106) (e110 : Y' 110 = Y 110) (e111 : Y' 111 = Y 111) : MBd Y' ν (setL ln n x) n := by
  have lo : ∀ i, i < n → (setL ln n x) i = ln i := fun i hi => setL_o ln _ (by omega)
  refine ⟨fun i hi => ?_, fun g hg => ?_⟩
  · obtain ⟨a1, a2, a3, a4, a5, a6⟩ := h.1 i hi
    unfold Mlin
    rw [lo i hi, (e100 i hi).1, (e100 i hi).2, e103, e104, e106]
    exact ⟨a1, a2, a3, a4, a5, a6⟩
  · obtain ⟨y1, y2⟩ := h.2 g hg
    unfold cnF at y1 ⊢
    unfold nuF at y2 ⊢
    rw [obF_c n lo, mkF_c _ n lo, loF_c _ n lo, e110, e111]
    exact ⟨y1, y2⟩
section LT4
variable {g : Nat → Int} {L K : Nat} {pl nn : Nat → Nat} {ty va : Nat → Int} {sy sn : Nat → Nat} {st : Nat → Nat → Int}
theorem ln_c63 (S : Strm g L K pl nn ty va) (hL : L ≤ 800) {k : Nat} (hk : k < K) (hkd : kd ty va k = 128 ∨ kd ty va k = 129 ∨ kd ty va k = 130) {n : Nat} (hn : n < 24) {ln : Nat → Ln} (d len : Nat) {M : zMu} (hP : CPb K pl ty va sy sn st ln n k M) (ν : zNu) : ∃ M', zF zT0 (d + 6) 13 [.ref 11] (zm len M ν) = zE zc_X1_readLine (zF zT0 (d + 5)) 63 [.ref 11, .int (zi (kd ty va k)), zU] [] (zm len M' ν) ∧ CPb K pl ty va sy sn st ln n (k + 1) M' ∧ frF M M' := by
  have hKL := S.2.1.2.2.2
  obtain ⟨hT, hX, hD⟩ := hP
  have A := g_kind (Nat.le_of_lt hk) (by omega) (d + 4) len hT ν
  obtain ⟨T, hT1⟩ := g_move hk (by omega) (d + 4) len hT ν
  have e11 := hD.1
  have f : frF M (zup M 6 6 (zi ((k : Int) + 1))) := frF_6 (frF_rf M) (by omega)
  refine ⟨_, ?_, ⟨hT1, NX_d hX f, hD⟩, f⟩
  rcases hkd with h | h | h <;> rw [h] at A ⊢ <;> rw [B_X1_readLine] <;> simp (disch := omega) only [A, B_X1_readLine_7, zz128, zz129, zz130, B_X1_readLine_38, e11, T, zbi_some, zbl_some, zbv_some, zbi_none, zbl_none, zbv_none, zbi_ite, zbl_ite, zbv_ite, zbZ, zbO, zc_lt, zc_le, zc_ge, zc_gt, zc_eq, zk0, zk1, zk2, zk3, zk4, zk5, zk6, zk7, zk8, zk9, zk10, zk11, zk12, zk14, zk15, zk16, zk17, zk19, zk20, zk21, zk24, zk25, zk30, zk32, zk36, zk40, zk45, zk50, zk64, zk97, zk99, zk100, zk102, zk122, zk128, zk255, zk800, zk801, zk900, zk999, zk1000, zk1997, zk9999, zk10000, zk100000, zk99999, zk9999999, zk999999999, zk2147483647, zlc0, zlc1, zlc2, zlc3, zlc4, zlc23, zlc99, zlc100, zlc9999999, zlc999999999999, zlc1073741824, zi_neg, zi_add, zi_sub, zi_mul, zl_neg, zl_add, zl_sub, zl_mul, zi_toInt, zi_nat, zi_le, zi_lt, zi_eq, zl_le, zl_lt, zl_eq, zl_toInt, zl_of32, zi_of64, zi_div, zl_div, zmodI, ↓reduceIte, zTle, zFle, zTlt, zFlt, zTeq, zFeq, if_true, if_false, and_self, and_true, true_and, and_false, false_and, or_self, or_true, true_or, or_false, false_or, not_true_eq_false, not_false_eq_true, zcastA, zcastL, znatC, zab, Int.reduceAdd, Int.reduceSub, Int.reduceMul, Int.reduceNeg, Int.reduceToNat, Nat.reduceAdd]
theorem ln_c (S : Strm g L K pl nn ty va) (hL : L ≤ 800) {k : Nat} (hk : k < K) (hkd : kd ty va k = 128 ∨ kd ty va k = 129 ∨ kd ty va k = 130) {n : Nat} (hn : n < 24) {ln : Nat → Ln} (d len : Nat) {M : zMu} (hP : CPb K pl ty va sy sn st ln n k M) (ν : zNu) :
    (kd ty va (k + 1) ≠ 131 → ∃ M', zF zT0 (d + 6) 13 [.ref 11] (zm len M ν) = some (.int (zi 0), zm len M' ν) ∧ M' 6 7 = zi 1 ∧ M' 6 8 = zi (pl (k + 1) : Int) ∧ frF M M') ∧
    (kd ty va (k + 1) = 131 → (kd ty va (k + 2) ≠ 2 → ∃ M', zF zT0 (d + 6) 13 [.ref 11] (zm len M ν) = some (.int (zi 0), zm len M' ν) ∧ M' 6 7 = zi 1 ∧ M' 6 8 = zi (pl (k + 2) : Int) ∧ frF M M') ∧
    (kd ty va (k + 2) = 2 → 7 < va (k + 2) → ∃ M', zF zT0 (d + 6) 13 [.ref 11] (zm len M ν) = some (.int (zi 0), zm len M' ν) ∧ M' 6 7 = zi 2 ∧ M' 6 8 = zi (pl (k + 2) : Int) ∧ frF M M') ∧
    (kd ty va (k + 2) = 2 → ∀ gg : Nat, gg < 8 → va (k + 2) = (gg : Int) → ∃ M', zF zT0 (d + 6) 13 [.ref 11] (zm len M ν) = zE zc_X1_readLine (zF zT0 (d + 5)) 152 [.ref 11, .int (zi (kd ty va k)), .int (zi (gg : Int))] [.int (zi (sy gg : Int)), .int (zi (n : Int)), .ref 11] (zm len M' ν) ∧ CPd K pl ty va sy sn st (setL ln n (kd ty va k - 128, (gg : Int), 0, 0, [])) n (k + 3) M' ∧ frF M M')) := by
  have hKL := S.2.1.2.2.2
  have kb : 128 ≤ kd ty va k ∧ kd ty va k ≤ 130 := by omega
  clear hkd
  obtain ⟨M1, A1, ⟨hT1, hX1, hD1⟩, F1⟩ := ln_c63 S hL hk (by omega) hn d len hP ν
  have x1 : 0 ≤ kd ty va (k + 1) ∧ kd ty va (k + 1) ≤ 200 := by have := (kd_c S (show k + 1 ≤ K from hk)).1; unfold Kc at this; omega
  refine ⟨fun h1 => ?_, fun h1 => ?_⟩
  · obtain ⟨M', T, T1, T2, T3⟩ := g_taken (show k + 1 ≤ K from hk) (by omega) h1 x1 (by omega) (d + 3) len hT1 ν
    refine ⟨M', A1.trans ?_, T1, T2, frF_tr F1 T3⟩
    rw [B_X1_readLine_63, show zF zT0 (d + 5) 133 [.ref 6, .int 131] (zm len M1 ν) = _ from T, zbi_some, B_X1_readLine_73, if_pos zz_0]
    rfl
  · have hk1 := kd_lt S (show k + 1 ≤ K from hk) h1 (by decide)
    have T2 : zF zT0 (d + 5) 133 [.ref 6, .int 131] (zm len M1 ν) = _ := g_take hk1 (by omega) h1 (by omega) (d + 3) len hT1 ν
    have hT2 := (g_move hk1 (by omega) (d + 3) len hT1 ν).2
    obtain ⟨M2, hM2⟩ : ∃ M2, M2 = zup M1 6 6 (zi (((k + 1 : Nat) : Int) + 1)) := ⟨_, rfl⟩
    have hD2 : DBd M2 ln n := by rw [hM2]; exact hD1
    have f12 : frF M1 M2 := by rw [hM2]; exact frF_6 (frF_rf M1) (by omega)
    rw [← hM2] at T2 hT2
    have hX2 := NX_d hX1 f12
    have F2 := frF_tr F1 f12
    have x2 : Kc (kd ty va (k + 2)) (va (k + 2)) := (kd_c S (show k + 2 ≤ K from hk1)).1
    have x2' : 0 ≤ kd ty va (k + 2) ∧ kd ty va (k + 2) ≤ 200 := by unfold Kc at x2; omega
    have G : zF zT0 (d + 5) 129 [.ref 6] (zm len M2 ν) = _ := g_kind (show k + 2 ≤ K from hk1) (by omega) (d + 4) len hT2 ν
    have A63 : ∀ x : Int32, zF zT0 (d + 5) 130 [.ref 6] (zm len M2 ν) = some (.int x, zm len M2 ν) → zF zT0 (d + 6) 13 [.ref 11] (zm len M ν) = zE zc_X1_readLine (zF zT0 (d + 5)) 93 [.ref 11, .int (zi (kd ty va k)), .int x] [.int (zi (kd ty va (k + 2)))] (zm len M2 ν) := fun x V => by
      refine A1.trans ?_
      rw [B_X1_readLine_63, T2, zbi_some, B_X1_readLine_73, if_neg zz_10, V, zbi_some, B_X1_readLine_85, G, zbi_some]
    refine ⟨fun h2 => ?_, fun h2 h7 => ?_, fun h2 gg hgg hv => ?_⟩
    · obtain ⟨x, V⟩ := g_valx (show k + 2 ≤ K from hk1) (by omega) (d + 4) len hT2 ν
      obtain ⟨M', T, U1, U2, U3⟩ := g_fail (show k + 2 ≤ K from hk1) (by omega) (d + 4) len hT2 ν 1
      refine ⟨M', (A63 x V).trans ?_, U1, U2, frF_tr F2 U3⟩
      rw [B_X1_readLine_93]
      simp (disch := omega) only [h2, T, B_X1_readLine_105, zbi_some, zbl_some, zbv_some, zbi_none, zbl_none, zbv_none, zbi_ite, zbl_ite, zbv_ite, zbZ, zbO, zc_lt, zc_le, zc_ge, zc_gt, zc_eq, zk0, zk1, zk2, zk3, zk4, zk5, zk6, zk7, zk8, zk9, zk10, zk11, zk12, zk14, zk15, zk16, zk17, zk19, zk20, zk21, zk24, zk25, zk30, zk32, zk36, zk40, zk45, zk50, zk64, zk97, zk99, zk100, zk102, zk122, zk128, zk255, zk800, zk801, zk900, zk999, zk1000, zk1997, zk9999, zk10000, zk100000, zk99999, zk9999999, zk999999999, zk2147483647, zlc0, zlc1, zlc2, zlc3, zlc4, zlc23, zlc99, zlc100, zlc9999999, zlc999999999999, zlc1073741824, zi_neg, zi_add, zi_sub, zi_mul, zl_neg, zl_add, zl_sub, zl_mul, zi_toInt, zi_nat, zi_le, zi_lt, zi_eq, zl_le, zl_lt, zl_eq, zl_toInt, zl_of32, zi_of64, zi_div, zl_div, zmodI, ↓reduceIte, zTle, zFle, zTlt, zFlt, zTeq, zFeq, if_true, if_false, and_self, and_true, true_and, and_false, false_and, or_self, or_true, true_or, or_false, false_or, not_true_eq_false, not_false_eq_true, zcastA, zcastL, znatC, zab, Int.reduceAdd, Int.reduceSub, Int.reduceMul, Int.reduceNeg, Int.reduceToNat, Nat.reduceAdd]
    · have hk2 := kd_lt S (show k + 2 ≤ K from hk1) h2 (by decide)
      have V := g_val (show k + 2 ≤ K from hk1) (by omega) (by have := ty_2 S hk2 h2; omega) (d + 4) len hT2 ν
      obtain ⟨M', T, U1, U2, U3⟩ := g_fail (show k + 2 ≤ K from hk1) (by omega) (d + 4) len hT2 ν 2
      have vb : 0 ≤ va (k + 2) ∧ va (k + 2) ≤ 9999 := by unfold Kc at x2; omega
      have Q := good_c (d + 3) len M2 ν vb
      rw [if_neg (by omega)] at Q
      refine ⟨M', (A63 _ V).trans ?_, U1, U2, frF_tr F2 U3⟩
      rw [B_X1_readLine_93, h2]
      simp (disch := omega) only [Q, B_X1_readLine_110, T, B_X1_readLine_121, zbi_some, zbl_some, zbv_some, zbi_none, zbl_none, zbv_none, zbi_ite, zbl_ite, zbv_ite, zbZ, zbO, zc_lt, zc_le, zc_ge, zc_gt, zc_eq, zk0, zk1, zk2, zk3, zk4, zk5, zk6, zk7, zk8, zk9, zk10, zk11, zk12, zk14, zk15, zk16, zk17, zk19, zk20, zk21, zk24, zk25, zk30, zk32, zk36, zk40, zk45, zk50, zk64, zk97, zk99, zk100, zk102, zk122, zk128, zk255, zk800, zk801, zk900, zk999, zk1000, zk1997, zk9999, zk10000, zk100000, zk99999, zk9999999, zk999999999, zk2147483647, zlc0, zlc1, zlc2, zlc3, zlc4, zlc23, zlc99, zlc100, zlc9999999, zlc999999999999, zlc1073741824, zi_neg, zi_add, zi_sub, zi_mul, zl_neg, zl_add, zl_sub, zl_mul, zi_toInt, zi_nat, zi_le, zi_lt, zi_eq, zl_le, zl_lt, zl_eq, zl_toInt, zl_of32, zi_of64, zi_div, zl_div, zmodI, ↓reduceIte, zTle, zFle, zTlt, zFlt, zTeq, zFeq, if_true, if_false, and_self, and_true, true_and, and_false, false_and, or_self, or_true, true_or, or_false, false_or, not_true_eq_false, not_false_eq_true, zcastA, zcastL, znatC, zab, Int.reduceAdd, Int.reduceSub, Int.reduceMul, Int.reduceNeg, Int.reduceToNat, Nat.reduceAdd]
    · have hk2 := kd_lt S (show k + 2 ≤ K from hk1) h2 (by decide)
      have V := g_val (show k + 2 ≤ K from hk1) (by omega) (by have := ty_2 S hk2 h2; omega) (d + 4) len hT2 ν
      rw [hv] at V
      have Q := good_c (d + 3) len M2 ν (v := (gg : Int)) (by omega)
      rw [if_pos (by omega)] at Q
      obtain ⟨T3, hT3⟩ := g_move hk2 (by omega) (d + 4) len hT2 ν
      obtain ⟨M3, hM3⟩ : ∃ M3, M3 = zup M2 6 6 (zi (((k + 2 : Nat) : Int) + 1)) := ⟨_, rfl⟩
      have hD3 : DBd M3 ln n := by rw [hM3]; exact hD2
      have f23 : frF M2 M3 := by rw [hM3]; exact frF_6 (frF_rf M2) (by omega)
      rw [← hM3] at T3 hT3
      obtain ⟨M4, B, B1, B2⟩ := begin_ok (d + 4) len ν (s := kd ty va k - 128) hn hgg hD3
      have f4 : frF M M4 := frF_d (frF_tr F2 f23) B2
      have hX4 := NX_d hP.2.1 f4
      have Y := F_syso (d + 2) len hX4 ν hgg
      have e11 := B1.1
      refine ⟨M4, (A63 _ V).trans ?_, ⟨Tk_d hT3 B2, hX4, B1⟩, f4⟩
      have c1 : zi (kd ty va k) - (128 : Int32) = zi (kd ty va k - 128) := by rw [zz128, zi_sub]
      rw [B_X1_readLine_93, h2, if_pos (show zi 2 = (2 : Int32) from rfl), show zF zT0 (d + 5) 176 _ _ = _ from Q, zbi_some, B_X1_readLine_110, if_neg zz_10, show zF zT0 (d + 5) 132 _ _ = _ from T3, zbv_some, B_X1_readLine_129, c1, show zF zT0 (d + 5) 14 _ _ = _ from B, zbv_some, B_X1_readLine_139, show zF zT0 (d + 5) 67 _ _ = _ from Y, zbi_some, e11]
theorem ln_m (S : Strm g L K pl nn ty va) (hL : L ≤ 800) (hg : ∀ i, 0 ≤ g i ∧ g i ≤ 255) {k : Nat} (hk : k < K) (hkd : kd ty va k = 128 ∨ kd ty va k = 129 ∨ kd ty va k = 130) {n : Nat} (hn : n < 24) {ln : Nat → Ln} (d len : Nat) {Y : zMu} {ν : zNu} {r : Nat → Int32} (hP : NPb g L pl nn ty va sy sn st ln n k Y ν r) :
    (kd ty va (k + 1) ≠ 131 → ∃ r' Y' ν', zF zT0 (d + 6) 209 [.ref 92, .int (zi ((288 + n : Nat) : Int))] (zm len (zrw Y 92 r) ν) = some (.int (zi (-1)), zm len (zrw Y' 92 r') ν') ∧ r' 12 = zi 1 ∧ r' 13 = zi (pl (k + 1) : Int) ∧ fr6 r r' ∧ frN Y Y' ν ν') ∧
    (kd ty va (k + 1) = 131 → (kd ty va (k + 2) ≠ 2 → ∃ r' Y' ν', zF zT0 (d + 6) 209 [.ref 92, .int (zi ((288 + n : Nat) : Int))] (zm len (zrw Y 92 r) ν) = some (.int (zi (-1)), zm len (zrw Y' 92 r') ν') ∧ r' 12 = zi 1 ∧ r' 13 = zi (pl (k + 2) : Int) ∧ fr6 r r' ∧ frN Y Y' ν ν') ∧
    (kd ty va (k + 2) = 2 → 7 < va (k + 2) → ∃ r' Y' ν', zF zT0 (d + 6) 209 [.ref 92, .int (zi ((288 + n : Nat) : Int))] (zm len (zrw Y 92 r) ν) = some (.int (zi (-1)), zm len (zrw Y' 92 r') ν') ∧ r' 12 = zi 2 ∧ r' 13 = zi (pl (k + 2) : Int) ∧ fr6 r r' ∧ frN Y Y' ν ν') ∧
    (kd ty va (k + 2) = 2 → ∀ gg : Nat, gg < 8 → va (k + 2) = (gg : Int) → ∃ r' Y' ν', zF zT0 (d + 6) 209 [.ref 92, .int (zi ((288 + n : Nat) : Int))] (zm len (zrw Y 92 r) ν) = zE zc_X12_readLine (zF zT0 (d + 5)) 77 [.ref 92, .int (zi ((288 + n : Nat) : Int))] [] (zm len (zrw Y' 92 r') ν') ∧ NPs g L pl nn ty va sy sn st (setL ln n (kd ty va k - 128, (gg : Int), 0, 0, [])) n (k + 3) Y' ν' r' ∧ fr4 r r' ∧ frN Y Y' ν ν')) := by
  have kb : 128 ≤ kd ty va k ∧ kd ty va k ≤ 130 := by omega
  clear hkd
  obtain ⟨hY, hN, e6, hM, hB⟩ := hP
  have ix : (288 + (n : Int)).toNat = 288 + n := by omega
  obtain ⟨x9, x10, n1, n2, n3⟩ := MS_n S (Nat.le_of_lt hk) hM
  have : x9 = 2 ∧ x10 = kd ty va k - 128 := by unfold Mt at n1; omega
  obtain ⟨h9, h10⟩ := this
  subst h9
  subst h10
  have n3 := n3 (by omega)
  obtain ⟨Ya, hYa⟩ : ∃ Ya, Ya = zup Y 100 (288 + n) (zi (kd ty va k - 128)) := ⟨_, rfl⟩
  have fa : frN Y Ya ν ν := by rw [hYa]; exact frN_up (frN_rf Y ν) (by omega)
  obtain ⟨r1, N1, R1, Q1⟩ := n_next S hL hg (d + 2) len ν (CcY_n hY fa) e6 hk hM
  have B1 : zF zT0 (d + 6) 209 [.ref 92, .int (zi ((288 + n : Nat) : Int))] (zm len (zrw Y 92 r) ν) = zE zc_X12_readLine (zF zT0 (d + 5)) 14 [.ref 92, .int (zi ((288 + n : Nat) : Int))] [] (zm len (zrw Ya 92 r1) ν) := by
    rw [B_X12_readLine]
    rw [hYa] at N1 ⊢
    simp (disch := omega) only [ix, zrw_s, n3, zup_zrw_n, N1, zbi_some, zbl_some, zbv_some, zbi_none, zbl_none, zbv_none, zbi_ite, zbl_ite, zbv_ite, zbZ, zbO, zc_lt, zc_le, zc_ge, zc_gt, zc_eq, zk0, zk1, zk2, zk3, zk4, zk5, zk6, zk7, zk8, zk9, zk10, zk11, zk12, zk14, zk15, zk16, zk17, zk19, zk20, zk21, zk24, zk25, zk30, zk32, zk36, zk40, zk45, zk50, zk64, zk97, zk99, zk100, zk102, zk122, zk128, zk255, zk800, zk801, zk900, zk999, zk1000, zk1997, zk9999, zk10000, zk100000, zk99999, zk9999999, zk999999999, zk2147483647, zlc0, zlc1, zlc2, zlc3, zlc4, zlc23, zlc99, zlc100, zlc9999999, zlc999999999999, zlc1073741824, zi_neg, zi_add, zi_sub, zi_mul, zl_neg, zl_add, zl_sub, zl_mul, zi_toInt, zi_nat, zi_le, zi_lt, zi_eq, zl_le, zl_lt, zl_eq, zl_toInt, zl_of32, zi_of64, zi_div, zl_div, zmodI, ↓reduceIte, zTle, zFle, zTlt, zFlt, zTeq, zFeq, if_true, if_false, and_self, and_true, true_and, and_false, false_and, or_self, or_true, true_or, or_false, false_or, not_true_eq_false, not_false_eq_true, zcastA, zcastL, znatC, zab, Int.reduceAdd, Int.reduceSub, Int.reduceMul, Int.reduceNeg, Int.reduceToNat, Nat.reduceAdd]
  have W : zF zT0 (d + 5) 204 [.ref 92, .int 3] (zm len (zrw Ya 92 r1) ν) = _ := n_wd S (show k + 1 ≤ K from hk) R1 (d + 4) len Ya ν (w := 3) 131 (Or.inl (by decide))
  refine ⟨fun h1 => ?_, fun h1 => ?_⟩
  · obtain ⟨r', N, P1, P2, P3⟩ := n_fails R1 (d + 3) len Ya ν 1
    refine ⟨r', Ya, ν, B1.trans ?_, P1, P2, fr6_4 Q1 (fun i _ _ _ _ i12 i13 => P3 i i12 i13), fa⟩
    rw [B_X12_readLine_14, W, zbi_some, B_X12_readLine_19, zb_z h1, if_pos zz_0, show zF zT0 (d + 5) 203 [.ref 92, .int 1] _ = _ from N, zbi_some, B_X12_readLine_27]
  · have hk1 := kd_lt S (show k + 1 ≤ K from hk) h1 (by decide)
    obtain ⟨r2, N2, R2, Q2⟩ := n_next S hL hg (d + 2) len ν (CcY_n hY fa) (by rw [fr4_6 Q1]; exact e6) hk1 R1
    have B2 : zF zT0 (d + 6) 209 [.ref 92, .int (zi ((288 + n : Nat) : Int))] (zm len (zrw Y 92 r) ν) = zE zc_X12_readLine (zF zT0 (d + 5)) 32 [.ref 92, .int (zi ((288 + n : Nat) : Int))] [] (zm len (zrw Ya 92 r2) ν) := by
      refine B1.trans ?_
      rw [B_X12_readLine_14, W, zbi_some, B_X12_readLine_19, zb_y h1, if_neg zz_10, show zF zT0 (d + 5) 201 _ _ = _ from N2, zbv_some]
    have Q12 : fr4 r r2 := fr4_tr Q1 Q2
    have s9 := m_sg9 S (show k + 2 ≤ K from hk1) R2
    refine ⟨fun h2 => ?_, fun h2 h7 => ?_, fun h2 gg hgg hv => ?_⟩
    · obtain ⟨r', N, P1, P2, P3⟩ := n_fails R2 (d + 3) len Ya ν 1
      refine ⟨r', Ya, ν, B2.trans ?_, P1, P2, fr6_4 Q12 (fun i _ _ _ _ i12 i13 => P3 i i12 i13), fa⟩
      rw [B_X12_readLine_32, zrw_s, if_neg (s9.2 h2), show zF zT0 (d + 5) 203 [.ref 92, .int 1] _ = _ from N, zbi_some, B_X12_readLine_45]
    · obtain ⟨y9, y10, m1, m2, m3⟩ := MS_n S (show k + 2 ≤ K from hk1) R2
      have : y9 = 3 ∧ y10 = va (k + 2) ∧ 0 ≤ va (k + 2) ∧ va (k + 2) ≤ 9999 := by unfold Mt at m1; omega
      obtain ⟨h9, h10, vb⟩ := this
      have m3 := m3 (by omega)
      rw [h10] at m3
      have Q := good_m (d + 3) len (zrw Ya 92 r2) ν vb
      rw [if_neg (by omega)] at Q
      obtain ⟨r', N, P1, P2, P3⟩ := n_fails R2 (d + 3) len Ya ν 2
      refine ⟨r', Ya, ν, B2.trans ?_, P1, P2, fr6_4 Q12 (fun i _ _ _ _ i12 i13 => P3 i i12 i13), fa⟩
      rw [B_X12_readLine_32, zrw_s, if_pos (s9.1 h2), m3, show zF zT0 (d + 5) 186 _ _ = _ from Q, zbi_some, B_X12_readLine_54, if_pos zz_0, show zF zT0 (d + 5) 203 [.ref 92, .int 2] _ = _ from N, zbi_some, B_X12_readLine_62]
    · have hk2 := kd_lt S (show k + 2 ≤ K from hk1) h2 (by decide)
      obtain ⟨y9, y10, m1, m2, m3⟩ := MS_n S (show k + 2 ≤ K from hk1) R2
      have : y9 = 3 ∧ y10 = va (k + 2) := by unfold Mt at m1; omega
      obtain ⟨h9, h10⟩ := this
      have m3 := m3 (by omega)
      rw [h10, hv] at m3
      have Q := good_m (d + 3) len (zrw Ya 92 r2) ν (v := (gg : Int)) (by omega)
      rw [if_pos (by omega)] at Q
      obtain ⟨Yb, hYb⟩ : ∃ Yb, Yb = zup Ya 101 (288 + n) (zi (gg : Int)) := ⟨_, rfl⟩
      have fb : frN Y Yb ν ν := by rw [hYb]; exact frN_up fa (by omega)
      have e62 : r2 6 = zi (L : Int) := by rw [fr4_6 Q12]; exact e6
      obtain ⟨r3, N3, R3, Q3⟩ := n_next S hL hg (d + 2) len ν (CcY_n hY fb) e62 hk2 R2
      have Q13 : fr4 r r3 := fr4_tr Q12 Q3
      refine ⟨r3, Yb, ν, B2.trans ?_, ⟨CcY_n hY fb, NY_n hN fb, by rw [fr4_6 Q13]; exact e6, R3, mb_set _ hB (fun i hi => ⟨?_, ?_⟩) ?_ ?_ ?_ ?_ ?_, ?_, ?_⟩, Q13, fb⟩
      · rw [B_X12_readLine_32, zrw_s, if_pos (s9.1 h2), m3, show zF zT0 (d + 5) 186 _ _ = _ from Q, zbi_some, B_X12_readLine_54, if_neg zz_10]
        rw [hYb] at N3 ⊢
        simp (disch := omega) only [ix, zrw_s, m3, zup_zrw_n, N3, zbi_some, zbl_some, zbv_some, zbi_none, zbl_none, zbv_none, zbi_ite, zbl_ite, zbv_ite, zbZ, zbO, zc_lt, zc_le, zc_ge, zc_gt, zc_eq, zk0, zk1, zk2, zk3, zk4, zk5, zk6, zk7, zk8, zk9, zk10, zk11, zk12, zk14, zk15, zk16, zk17, zk19, zk20, zk21, zk24, zk25, zk30, zk32, zk36, zk40, zk45, zk50, zk64, zk97, zk99, zk100, zk102, zk122, zk128, zk255, zk800, zk801, zk900, zk999, zk1000, zk1997, zk9999, zk10000, zk100000, zk99999, zk9999999, zk999999999, zk2147483647, zlc0, zlc1, zlc2, zlc3, zlc4, zlc23, zlc99, zlc100, zlc9999999, zlc999999999999, zlc1073741824, zi_neg, zi_add, zi_sub, zi_mul, zl_neg, zl_add, zl_sub, zl_mul, zi_toInt, zi_nat, zi_le, zi_lt, zi_eq, zl_le, zl_lt, zl_eq, zl_toInt, zl_of32, zi_of64, zi_div, zl_div, zmodI, ↓reduceIte, zTle, zFle, zTlt, zFlt, zTeq, zFeq, if_true, if_false, and_self, and_true, true_and, and_false, false_and, or_self, or_true, true_or, or_false, false_or, not_true_eq_false, not_false_eq_true, zcastA, zcastL, znatC, zab, Int.reduceAdd, Int.reduceSub, Int.reduceMul, Int.reduceNeg, Int.reduceToNat, Nat.reduceAdd]
      · rw [hYb, hYa]; simp (disch := omega) only [zup_at, upd_eq, upd_ne, ne_eq, Nat.reduceEqDiff, ↓reduceIte, if_true, if_false]
      · rw [hYb, hYa]; simp (disch := omega) only [zup_at, upd_eq, upd_ne, ne_eq, Nat.reduceEqDiff, ↓reduceIte, if_true, if_false]
      · rw [hYb, hYa]; simp (disch := omega) only [zup_at, upd_eq, upd_ne, ne_eq, Nat.reduceEqDiff, ↓reduceIte, if_true, if_false]
      · rw [hYb, hYa]; simp (disch := omega) only [zup_at, upd_eq, upd_ne, ne_eq, Nat.reduceEqDiff, ↓reduceIte, if_true, if_false]
      · rw [hYb, hYa]; simp (disch := omega) only [zup_at, upd_eq, upd_ne, ne_eq, Nat.reduceEqDiff, ↓reduceIte, if_true, if_false]
      · rw [hYb, hYa]; simp (disch := omega) only [zup_at, upd_eq, upd_ne, ne_eq, Nat.reduceEqDiff, ↓reduceIte, if_true, if_false]
      · rw [hYb, hYa]; simp (disch := omega) only [zup_at, upd_eq, upd_ne, ne_eq, Nat.reduceEqDiff, ↓reduceIte, if_true, if_false]
      · rw [setL_n, hYb, hYa]; simp (disch := omega) only [zup_at, upd_eq, upd_ne, ne_eq, Nat.reduceEqDiff, ↓reduceIte, if_true, if_false]
      · rw [setL_n, hYb, hYa]; simp (disch := omega) only [zup_at, upd_eq, upd_ne, ne_eq, Nat.reduceEqDiff, ↓reduceIte, if_true, if_false]
end LT4

/-! TABLET read: a LINE's numeral and its end, both sides at once -/
def TlO (g : Nat → Int) (L K : Nat) (pl nn : Nat → Nat) (ty va : Nat → Int) (sy sn : Nat → Nat) (st : Nat → Nat → Int) (ln : Nat → Ln) (n : Nat) (C : zMu → Prop) (N : zMu → zNu → (Nat → Int32) → Prop) (fC fN : Nat → zM → zR) : Prop :=
  (∃ ft kf, kf ≤ K ∧ (1 ≤ ft ∧ ft ≤ 3) ∧ Cfl C fC ft (pl kf) ∧ Nfl N fN ft (pl kf)) ∨
  ∃ (x : Ln) (kf : Nat), kf ≤ K ∧ (x.1 = (ln n).1 ∧ x.2.1 = (ln n).2.1 ∧ 0 ≤ x.2.2.1 ∧ x.2.2.1 ≤ 1 ∧ (x.2.2.1 = 1 → x.2.2.2 = (0, []))) ∧ LI (setL ln n x) n 59399406 ∧ Cok C fC (CPb K pl ty va sy sn st (setL ln n x) (n + 1) kf) ∧ Nok N fN 0 (NPb g L pl nn ty va sy sn st (setL ln n x) (n + 1) kf)
section LT2
variable {g : Nat → Int} {L K : Nat} {pl nn : Nat → Nat} {ty va : Nat → Int} {sy sn : Nat → Nat} {st : Nat → Nat → Int}
theorem n_99 (S : Strm g L K pl nn ty va) {k : Nat} (hk : k ≤ K) (c : kd ty va k = 2 ∨ kd ty va k = 63) {r : Nat → Int32} (hM : MS pl nn ty va r k) (d len : Nat) (Y : zMu) (ν : zNu) (x1 x2 : Int32) : zE zc_X12_readNumeral (zF zT0 (d + 4)) 99 [.ref 92, .int x1, .int x2] [] (zm len (zrw Y 92 r) ν) = zE zc_X12_readNumeral (zF zT0 (d + 4)) 116 [.ref 92, .int x1, .int x2] [] (zm len (zrw Y 92 r) ν) := by
  have s9 := m_sg9 S hk hM
  have s1 : zF zT0 (d + 4) 205 [.ref 92, .int 63] (zm len (zrw Y 92 r) ν) = _ := n_sg S hk hM (d + 3) len Y ν (c := 63) (by decide)
  rw [B_X12_readNumeral_99, zrw_s]
  by_cases z : kd ty va k = 2
  · rw [if_pos (s9.1 z)]
  · have y : kd ty va k = 63 := by omega
    rw [if_neg (s9.2 z), s1, zbi_some, B_X12_readNumeral_113, zb_y y, if_neg zz_10]
theorem n_st1 (S : Strm g L K pl nn ty va) {k : Nat} (hk : k ≤ K) (h132 : kd ty va k ≠ 132) {n gg : Nat} (hn : n < 24) {r : Nat → Int32} (hM : MS pl nn ty va r k) (d len : Nat) (Y : zMu) (ν : zNu) : (kd ty va k = 2 ∨ kd ty va k = 63 → zF zT0 (d + 5) 208 [.ref 92, .int (zi ((288 + n : Nat) : Int))] (zm len (zrw Y 92 r) ν) = zE zc_X12_readNumeral (zF zT0 (d + 4)) 116 [.ref 92, .int (zi ((288 + n : Nat) : Int)), .int (zi ((6 : Nat) : Int))] [] (zm len (zrw (zup (zup Y 104 (288 + n) (zi 0)) 103 (288 + n) (zi 0)) 92 r) (zupl ν 102 (288 + n) (zl 0)))) ∧ (kd ty va k ≠ 2 → kd ty va k ≠ 63 → ∃ r', zF zT0 (d + 5) 208 [.ref 92, .int (zi ((288 + n : Nat) : Int))] (zm len (zrw Y 92 r) ν) = some (.int (zi (-1)), zm len (zrw (zup (zup Y 104 (288 + n) (zi 0)) 103 (288 + n) (zi 0)) 92 r') (zupl ν 102 (288 + n) (zl 0))) ∧ r' 12 = zi 1 ∧ r' 13 = zi (pl k : Int) ∧ fr6 r r') := by
  have ix : (288 + (n : Int)).toNat = 288 + n := by omega
  have W := n_wd S hk hM (d + 3) len (zup Y 104 (288 + n) (zi 0)) (zupl ν 102 (288 + n) (zl 0)) (w := 4) 132 (Or.inl (by decide))
  rw [zb_z h132] at W
  have z0 : znar 3 (zi 0) = zi 0 := rfl
  have s1 := n_sg S hk hM (d + 3) len (zup (zup Y 104 (288 + n) (zi 0)) 103 (288 + n) (zi 0)) (zupl ν 102 (288 + n) (zl 0)) (c := 63) (by decide)
  obtain ⟨x9, x10, n1, n2, n3⟩ := MS_n S hk hM
  refine ⟨fun c => ?_, fun h2 h63 => ?_⟩
  · refine Eq.trans ?_ (n_99 S hk c hM d len _ _ _ _)
    rw [B_X12_readNumeral]
    by_cases z : kd ty va k = 2
    · have : x9 = 3 := by unfold Mt at n1; omega
      subst this
      simp (disch := omega) only [ix, zup_zrw_n, W, B_X12_readNumeral_24, z0, upd_eq, zrw_s, n2, B_X12_readNumeral_96, zbi_some, zbl_some, zbv_some, zbi_none, zbl_none, zbv_none, zbi_ite, zbl_ite, zbv_ite, zbZ, zbO, zc_lt, zc_le, zc_ge, zc_gt, zc_eq, zk0, zk1, zk2, zk3, zk4, zk5, zk6, zk7, zk8, zk9, zk10, zk11, zk12, zk14, zk15, zk16, zk17, zk19, zk20, zk21, zk24, zk25, zk30, zk32, zk36, zk40, zk45, zk50, zk64, zk97, zk99, zk100, zk102, zk122, zk128, zk255, zk800, zk801, zk900, zk999, zk1000, zk1997, zk9999, zk10000, zk100000, zk99999, zk9999999, zk999999999, zk2147483647, zlc0, zlc1, zlc2, zlc3, zlc4, zlc23, zlc99, zlc100, zlc9999999, zlc999999999999, zlc1073741824, zi_neg, zi_add, zi_sub, zi_mul, zl_neg, zl_add, zl_sub, zl_mul, zi_toInt, zi_nat, zi_le, zi_lt, zi_eq, zl_le, zl_lt, zl_eq, zl_toInt, zl_of32, zi_of64, zi_div, zl_div, zmodI, ↓reduceIte, zTle, zFle, zTlt, zFlt, zTeq, zFeq, if_true, if_false, and_self, and_true, true_and, and_false, false_and, or_self, or_true, true_or, or_false, false_or, not_true_eq_false, not_false_eq_true, zcastA, zcastL, znatC, zab, Int.reduceAdd, Int.reduceSub, Int.reduceMul, Int.reduceNeg, Int.reduceToNat, Nat.reduceAdd]
    · have y : kd ty va k = 63 := by omega
      rw [zb_y y] at s1
      have : x9 = 4 := by unfold Mt at n1; omega
      subst this
      simp (disch := omega) only [ix, zup_zrw_n, W, B_X12_readNumeral_24, z0, upd_eq, zrw_s, n2, zq63, s1, B_X12_readNumeral_87, B_X12_readNumeral_96, zbi_some, zbl_some, zbv_some, zbi_none, zbl_none, zbv_none, zbi_ite, zbl_ite, zbv_ite, zbZ, zbO, zc_lt, zc_le, zc_ge, zc_gt, zc_eq, zk0, zk1, zk2, zk3, zk4, zk5, zk6, zk7, zk8, zk9, zk10, zk11, zk12, zk14, zk15, zk16, zk17, zk19, zk20, zk21, zk24, zk25, zk30, zk32, zk36, zk40, zk45, zk50, zk64, zk97, zk99, zk100, zk102, zk122, zk128, zk255, zk800, zk801, zk900, zk999, zk1000, zk1997, zk9999, zk10000, zk100000, zk99999, zk9999999, zk999999999, zk2147483647, zlc0, zlc1, zlc2, zlc3, zlc4, zlc23, zlc99, zlc100, zlc9999999, zlc999999999999, zlc1073741824, zi_neg, zi_add, zi_sub, zi_mul, zl_neg, zl_add, zl_sub, zl_mul, zi_toInt, zi_nat, zi_le, zi_lt, zi_eq, zl_le, zl_lt, zl_eq, zl_toInt, zl_of32, zi_of64, zi_div, zl_div, zmodI, ↓reduceIte, zTle, zFle, zTlt, zFlt, zTeq, zFeq, if_true, if_false, and_self, and_true, true_and, and_false, false_and, or_self, or_true, true_or, or_false, false_or, not_true_eq_false, not_false_eq_true, zcastA, zcastL, znatC, zab, Int.reduceAdd, Int.reduceSub, Int.reduceMul, Int.reduceNeg, Int.reduceToNat, Nat.reduceAdd]
  · obtain ⟨r', N, P1, P2, P3⟩ := n_fails hM (d + 2) len (zup (zup Y 104 (288 + n) (zi 0)) 103 (288 + n) (zi 0)) (zupl ν 102 (288 + n) (zl 0)) 1
    rw [zb_z h63] at s1
    have b9 : 0 ≤ x9 ∧ x9 ≤ 4 := by unfold Mt at n1; omega
    have x93 : ¬ x9 = 3 := by unfold Mt at n1; omega
    refine ⟨r', ?_, P1, P2, fun i _ _ _ _ i12 i13 => P3 i i12 i13⟩
    rw [B_X12_readNumeral]
    simp (disch := omega) only [ix, zup_zrw_n, W, B_X12_readNumeral_24, z0, upd_eq, zrw_s, n2, x93, zq63, s1, B_X12_readNumeral_87, N, B_X12_readNumeral_95, zbi_some, zbl_some, zbv_some, zbi_none, zbl_none, zbv_none, zbi_ite, zbl_ite, zbv_ite, zbZ, zbO, zc_lt, zc_le, zc_ge, zc_gt, zc_eq, zk0, zk1, zk2, zk3, zk4, zk5, zk6, zk7, zk8, zk9, zk10, zk11, zk12, zk14, zk15, zk16, zk17, zk19, zk20, zk21, zk24, zk25, zk30, zk32, zk36, zk40, zk45, zk50, zk64, zk97, zk99, zk100, zk102, zk122, zk128, zk255, zk800, zk801, zk900, zk999, zk1000, zk1997, zk9999, zk10000, zk100000, zk99999, zk9999999, zk999999999, zk2147483647, zlc0, zlc1, zlc2, zlc3, zlc4, zlc23, zlc99, zlc100, zlc9999999, zlc999999999999, zlc1073741824, zi_neg, zi_add, zi_sub, zi_mul, zl_neg, zl_add, zl_sub, zl_mul, zi_toInt, zi_nat, zi_le, zi_lt, zi_eq, zl_le, zl_lt, zl_eq, zl_toInt, zl_of32, zi_of64, zi_div, zl_div, zmodI, ↓reduceIte, zTle, zFle, zTlt, zFlt, zTeq, zFeq, if_true, if_false, and_self, and_true, true_and, and_false, false_and, or_self, or_true, true_or, or_false, false_or, not_true_eq_false, not_false_eq_true, zcastA, zcastL, znatC, zab, Int.reduceAdd, Int.reduceSub, Int.reduceMul, Int.reduceNeg, Int.reduceToNat, Nat.reduceAdd]
theorem n_lost (S : Strm g L K pl nn ty va) (hL : L ≤ 800) (hg : ∀ i, 0 ≤ g i ∧ g i ≤ 255) {k : Nat} (hk : k < K) (h132 : kd ty va k = 132) {n gg : Nat} (hn : n < 24) (hgg : gg < 8) {ln : Nat → Ln} (eg : (ln n).2.1 = (gg : Int)) (e : (ln n).2.2 = (0, 0, [])) (hm3 : ∀ i, i < n → (ln i).2.2.2.2.length ≤ 3) (d len : Nat) {Y : zMu} {ν : zNu} {r : Nat → Int32} (hP : NPs g L pl nn ty va sy sn st ln n k Y ν r) : (loF ln (bkF ln n) (n + 1) ≠ -1 → ∃ r' Y' ν', zF zT0 (d + 5) 208 [.ref 92, .int (zi ((288 + n : Nat) : Int))] (zm len (zrw Y 92 r) ν) = some (.int (zi (-1)), zm len (zrw Y' 92 r') ν') ∧ r' 12 = zi 3 ∧ r' 13 = zi (pl k : Int) ∧ fr6 r r' ∧ frN Y Y' ν ν') ∧ (loF ln (bkF ln n) (n + 1) = -1 → ∃ r' Y' ν', zF zT0 (d + 5) 208 [.ref 92, .int (zi ((288 + n : Nat) : Int))] (zm len (zrw Y 92 r) ν) = some (.int (zi 0), zm len (zrw Y' 92 r') ν') ∧ NPd g L pl nn ty va sy sn st (setL ln n ((ln n).1, (ln n).2.1, 1, 0, [])) n (k + 1) Y' ν' r' ∧ fr4 r r' ∧ frN Y Y' ν ν') := by
  obtain ⟨hY, hN, e6, hM, hB, e100, e101⟩ := hP
  have ix : (288 + (n : Int)).toNat = 288 + n := by omega
  have H0 := mm_start hB e100 e101 e
  have e111 := (H0.2 gg hgg).2
  rw [if_pos eg.symm] at e111
  have e111 : Y 111 gg = zi (lo01 ln n) := e111
  unfold lo01 at e111
  rw [eg] at e101
  have W := n_wd S (Nat.le_of_lt hk) hM (d + 3) len (zup Y 104 (288 + n) (zi 0)) (zupl ν 102 (288 + n) (zl 0)) (w := 4) 132 (Or.inl (by decide))
  rw [zb_y h132] at W
  have z1 : znar 3 (zi 1) = zi 1 := rfl
  refine ⟨fun h => ?_, fun h => ?_⟩
  · rw [if_neg h] at e111
    obtain ⟨r', N, P1, P2, P3⟩ := n_fails hM (d + 2) len (zup (zup Y 104 (288 + n) (zi 0)) 103 (288 + n) (zi 1)) (zupl ν 102 (288 + n) (zl 0)) 3
    have fn : frN Y (zup (zup Y 104 (288 + n) (zi 0)) 103 (288 + n) (zi 1)) ν (zupl ν 102 (288 + n) (zl 0)) := frN_upl (frN_up (frN_up (frN_rf Y ν) (by omega)) (by omega)) (by omega)
    refine ⟨r', zup (zup Y 104 (288 + n) (zi 0)) 103 (288 + n) (zi 1), zupl ν 102 (288 + n) (zl 0), ?_, P1, P2, fun i _ _ _ _ i12 i13 => P3 i i12 i13, fn⟩
    rw [B_X12_readNumeral]
    simp (disch := omega) only [ix, zup_zrw_n, W, B_X12_readNumeral_24, z1, upd_eq, zrw_n, zup_ne, e101, e111, N, B_X12_readNumeral_54, zbi_some, zbl_some, zbv_some, zbi_none, zbl_none, zbv_none, zbi_ite, zbl_ite, zbv_ite, zbZ, zbO, zc_lt, zc_le, zc_ge, zc_gt, zc_eq, zk0, zk1, zk2, zk3, zk4, zk5, zk6, zk7, zk8, zk9, zk10, zk11, zk12, zk14, zk15, zk16, zk17, zk19, zk20, zk21, zk24, zk25, zk30, zk32, zk36, zk40, zk45, zk50, zk64, zk97, zk99, zk100, zk102, zk122, zk128, zk255, zk800, zk801, zk900, zk999, zk1000, zk1997, zk9999, zk10000, zk100000, zk99999, zk9999999, zk999999999, zk2147483647, zlc0, zlc1, zlc2, zlc3, zlc4, zlc23, zlc99, zlc100, zlc9999999, zlc999999999999, zlc1073741824, zi_neg, zi_add, zi_sub, zi_mul, zl_neg, zl_add, zl_sub, zl_mul, zi_toInt, zi_nat, zi_le, zi_lt, zi_eq, zl_le, zl_lt, zl_eq, zl_toInt, zl_of32, zi_of64, zi_div, zl_div, zmodI, ↓reduceIte, zTle, zFle, zTlt, zFlt, zTeq, zFeq, if_true, if_false, and_self, and_true, true_and, and_false, false_and, or_self, or_true, true_or, or_false, false_or, not_true_eq_false, not_false_eq_true, zcastA, zcastL, znatC, zab, Int.reduceAdd, Int.reduceSub, Int.reduceMul, Int.reduceNeg, Int.reduceToNat, Nat.reduceAdd]
  · rw [if_pos h] at e111
    obtain ⟨Y3, hY3⟩ : ∃ Y3, Y3 = zup (zup (zup Y 104 (288 + n) (zi 0)) 103 (288 + n) (zi 1)) 111 gg (zi 1) := ⟨_, rfl⟩
    have fn : frN Y Y3 ν (zupl ν 102 (288 + n) (zl 0)) := by
      rw [hY3]
      exact frN_upl (frN_up (frN_up (frN_up (frN_rf Y ν) (by omega)) (by omega)) (by omega)) (by omega)
    obtain ⟨r', N, R1, R2⟩ := n_next S hL hg (d + 1) len (zupl ν 102 (288 + n) (zl 0)) (CcY_n hY fn) e6 hk hM
    refine ⟨r', Y3, zupl ν 102 (288 + n) (zl 0), ?_, ⟨CcY_n hY fn, NY_n hN fn, by rw [fr4_6 R2]; exact e6, R1, ?_⟩, R2, fn⟩
    · rw [B_X12_readNumeral]
      rw [hY3] at N ⊢
      simp (disch := omega) only [ix, zup_zrw_n, W, B_X12_readNumeral_24, z1, upd_eq, zrw_n, zup_ne, e101, e111, N, B_X12_readNumeral_71, zbi_some, zbl_some, zbv_some, zbi_none, zbl_none, zbv_none, zbi_ite, zbl_ite, zbv_ite, zbZ, zbO, zc_lt, zc_le, zc_ge, zc_gt, zc_eq, zk0, zk1, zk2, zk3, zk4, zk5, zk6, zk7, zk8, zk9, zk10, zk11, zk12, zk14, zk15, zk16, zk17, zk19, zk20, zk21, zk24, zk25, zk30, zk32, zk36, zk40, zk45, zk50, zk64, zk97, zk99, zk100, zk102, zk122, zk128, zk255, zk800, zk801, zk900, zk999, zk1000, zk1997, zk9999, zk10000, zk100000, zk99999, zk9999999, zk999999999, zk2147483647, zlc0, zlc1, zlc2, zlc3, zlc4, zlc23, zlc99, zlc100, zlc9999999, zlc999999999999, zlc1073741824, zi_neg, zi_add, zi_sub, zi_mul, zl_neg, zl_add, zl_sub, zl_mul, zi_toInt, zi_nat, zi_le, zi_lt, zi_eq, zl_le, zl_lt, zl_eq, zl_toInt, zl_of32, zi_of64, zi_div, zl_div, zmodI, ↓reduceIte, zTle, zFle, zTlt, zFlt, zTeq, zFeq, if_true, if_false, and_self, and_true, true_and, and_false, false_and, or_self, or_true, true_or, or_false, false_or, not_true_eq_false, not_false_eq_true, zcastA, zcastL, znatC, zab, Int.reduceAdd, Int.reduceSub, Int.reduceMul, Int.reduceNeg, Int.reduceToNat, Nat.reduceAdd]
    · obtain ⟨m1, m2, m3, m4, m5, m6⟩ := H0.1 n (Nat.le_refl _)
      have em : (ln n).2.2.2.2 = [] := by rw [e]
      refine mm_set H0 rfl rfl (fun i hi => ⟨?_, ?_, rfl, ?_, ?_, fun j hj => ⟨rfl, ?_⟩⟩) hm3 ?_ (fun x hx y => ⟨?_, ?_⟩) (fun x hx y => ⟨?_, ?_⟩)
      · rw [hY3]; simp (disch := omega) only [zup_at, upd_eq, upd_ne, ne_eq, Nat.reduceEqDiff, ↓reduceIte, if_true, if_false]
      · rw [hY3]; simp (disch := omega) only [zup_at, upd_eq, upd_ne, ne_eq, Nat.reduceEqDiff, ↓reduceIte, if_true, if_false]
      · rw [hY3]; simp (disch := omega) only [zup_at, upd_eq, upd_ne, ne_eq, Nat.reduceEqDiff, ↓reduceIte, if_true, if_false]
      · rw [hY3]; simp (disch := omega) only [zup_at, upd_eq, upd_ne, ne_eq, Nat.reduceEqDiff, ↓reduceIte, if_true, if_false]
      · rw [hY3]; simp (disch := omega) only [zup_at, upd_eq, upd_ne, ne_eq, Nat.reduceEqDiff, ↓reduceIte, if_true, if_false]
      · unfold Mlin
        rw [setL_n]
        refine ⟨?_, ?_, ?_, ?_, ?_, fun j p hj => by cases hj⟩
        · rw [hY3]; simp (disch := omega) only [zup_at, upd_eq, upd_ne, ne_eq, Nat.reduceEqDiff, ↓reduceIte, if_true, if_false]; exact m1
        · rw [hY3]; simp (disch := omega) only [zup_at, upd_eq, upd_ne, ne_eq, Nat.reduceEqDiff, ↓reduceIte, if_true, if_false]; exact m2
        · rw [zupl_at, if_pos ⟨rfl, rfl⟩]
        · rw [hY3]; simp (disch := omega) only [zup_at, upd_eq, upd_ne, ne_eq, Nat.reduceEqDiff, ↓reduceIte, if_true, if_false]
        · rw [hY3]; simp (disch := omega) only [zup_at, upd_eq, upd_ne, ne_eq, Nat.reduceEqDiff, ↓reduceIte, if_true, if_false]; rfl
      · rw [hY3]; simp (disch := omega) only [zup_at, upd_eq, upd_ne, ne_eq, Nat.reduceEqDiff, ↓reduceIte, if_true, if_false]
      · have : x ≠ gg := fun q => y (by rw [q, eg])
        rw [hY3]; simp (disch := omega) only [zup_at, upd_eq, upd_ne, ne_eq, Nat.reduceEqDiff, ↓reduceIte, if_true, if_false]
      · have y1 := (H0.2 x hx).1
        rw [if_pos y, mk_len, em] at y1
        have y1 : Y 110 x = _ := y1
        rw [hY3]; simp (disch := omega) only [zup_at, upd_eq, upd_ne, ne_eq, Nat.reduceEqDiff, ↓reduceIte, if_true, if_false]
        exact y1
      · have : x = gg := by omega
        subst this
        rw [hY3]; simp (disch := omega) only [true_or, zup_at, upd_eq, upd_ne, ne_eq, Nat.reduceEqDiff, ↓reduceIte, if_true, if_false]
theorem c17 (S : Strm g L K pl nn ty va) (hL : L ≤ 800) {k : Nat} (hk : k ≤ K) (h132 : kd ty va k ≠ 132) {ln : Nat → Ln} {n : Nat} (d len : Nat) {M : zMu} (hP : CPd K pl ty va sy sn st ln n k M) (ν : zNu) (x1 x2 : Int32) : zF zT0 (d + 5) 17 [.ref 11, .int x1, .int x2] (zm len M ν) = zE zc_X1_readNumeral (zF zT0 (d + 4)) 51 [.ref 11, .int x1, .int x2, .int (zi ((6 : Nat) : Int)), .int (zi ((0 : Nat) : Int))] [] (zm len M ν) := by
  have hKL := S.2.1.2.2.2
  have x0 : 0 ≤ kd ty va k ∧ kd ty va k ≤ 200 := by have := (kd_c S hk).1; unfold Kc at this; omega
  have A := g_kind hk (by omega) (d + 3) len hP.1 ν
  have n1 : ¬ zi (kd ty va k) = (132 : Int32) := fun q => by
    have q : zi (kd ty va k) = zi 132 := q
    rw [zi_eq (by omega)] at q
    exact h132 q
  rw [B_X1_readNumeral]
  show zbi (zF zT0 (d + 4) 129 [.ref 6] (zm len M ν)) _ = _
  rw [show zF zT0 (d + 4) 129 [.ref 6] (zm len M ν) = _ from A, zbi_some, B_X1_readNumeral_7, if_neg n1, B_X1_readNumeral_25, if_neg (by decide), if_pos (by decide)]
  rfl
theorem c17l (S : Strm g L K pl nn ty va) (hL : L ≤ 800) {k : Nat} (hk : k < K) (h132 : kd ty va k = 132) {ln : Nat → Ln} {n : Nat} (hn : n < 24) (d len : Nat) {M : zMu} (hP : CPd K pl ty va sy sn st ln n k M) (ν : zNu) (x2 : Int32) : (loF ln (bkF ln n) (n + 1) ≠ -1 → ∃ M', zF zT0 (d + 5) 17 [.ref 11, .int (zi (n : Int)), .int x2] (zm len M ν) = some (.int (zi 0), zm len M' ν) ∧ M' 6 7 = zi 3 ∧ M' 6 8 = zi (pl k : Int) ∧ frF M M') ∧ (loF ln (bkF ln n) (n + 1) = -1 → ∃ M', zF zT0 (d + 5) 17 [.ref 11, .int (zi (n : Int)), .int x2] (zm len M ν) = some (.int (zi 1), zm len M' ν) ∧ CPd K pl ty va sy sn st (setL ln n ((ln n).1, (ln n).2.1, 1, (ln n).2.2.2.1, (ln n).2.2.2.2)) n (k + 1) M' ∧ frF M M') := by
  have hKL := S.2.1.2.2.2
  obtain ⟨hT, hX, hD⟩ := hP
  have A := g_kind (Nat.le_of_lt hk) (by omega) (d + 3) len hT ν
  rw [h132] at A
  have B := lost_c S hL hk (d + 2) len hT ν hn hD
  have e : ∀ M : zM, zF zT0 (d + 5) 17 [.ref 11, .int (zi (n : Int)), .int x2] M = zF zT0 ((d + 4) + 1) 17 [.ref 11, .int (zi (n : Int)), .int x2] M := fun _ => rfl
  refine ⟨fun h => ?_, fun h => ?_⟩
  · obtain ⟨M', T, T1⟩ := B.1 h
    refine ⟨M', ?_, T1⟩
    rw [e, B_X1_readNumeral]
    show zbi (zF zT0 (d + 4) 129 [.ref 6] (zm len M ν)) _ = _
    rw [show zF zT0 (d + 4) 129 [.ref 6] (zm len M ν) = _ from A, zbi_some, B_X1_readNumeral_7, if_pos (show zi 132 = (132 : Int32) from rfl), show zF zT0 (d + 4) 18 _ _ = _ from T, zbi_some, B_X1_readNumeral_18]
    exact if_pos (Or.inl rfl)
  · obtain ⟨M', T, T1, T2, T3⟩ := B.2 h
    refine ⟨M', ?_, ⟨T1, NX_d hX T3, T2⟩, T3⟩
    rw [e, B_X1_readNumeral]
    show zbi (zF zT0 (d + 4) 129 [.ref 6] (zm len M ν)) _ = _
    rw [show zF zT0 (d + 4) 129 [.ref 6] (zm len M ν) = _ from A, zbi_some, B_X1_readNumeral_7, if_pos (show zi 132 = (132 : Int32) from rfl), show zF zT0 (d + 4) 18 _ _ = _ from T, zbi_some, B_X1_readNumeral_18]
    exact if_pos (Or.inr rfl)
end LT2

/-! TABLET read: a NUMERAL's counts, both sides at once -/
theorem zi_nm1 {j : Nat} (h : j < 1000) : ¬ zi (j : Int) = (-1 : Int32) := fun q => by
  have q : zi (j : Int) = zi (-1) := q
  rw [zi_eq (by omega)] at q
  omega
theorem zz_m1 : zi (-1) = (-1 : Int32) := rfl
theorem zz_0 : zi 0 = (0 : Int32) := rfl
theorem zz_10 : ¬ zi 1 = (0 : Int32) := by decide
theorem setL_S (ln : Nat → Ln) (n : Nat) (x y : Ln) : setL (setL ln n x) n y = setL ln n y := by
  funext i
  by_cases z : i = n
  · rw [z, setL_n, setL_n]
  · rw [setL_o _ _ z, setL_o _ _ z, setL_o _ _ z]
theorem setL_id (ln : Nat → Ln) (n : Nat) : setL ln n (ln n) = ln := by
  funext i
  by_cases z : i = n
  · rw [z, setL_n]
  · rw [setL_o _ _ z]
theorem bk_set (ln : Nat → Ln) {n : Nat} {x : Ln} (e : x.2.1 = (ln n).2.1) : bkF (setL ln n x) n = bkF ln n := bkF_c (fun i hi => setL_o ln _ (by omega)) (by rw [setL_n, e])
theorem mk_set (ln : Nat → Ln) {n : Nat} {x : Ln} (e : x.2.1 = (ln n).2.1) : (mkF (setL ln n x) (bkF (setL ln n x) n) (n + 1)).length = (mkF ln (bkF ln n) n).length + x.2.2.2.2.length := by
  rw [mk_len, bk_set ln e, setL_n, mkF_c (bkF ln n) n (fun i hi => setL_o ln x (by omega))]
def LI (ln : Nat → Ln) (n : Nat) (bd : Int) : Prop := (0 ≤ (ln n).2.2.2.1 ∧ (ln n).2.2.2.1 ≤ bd) ∧ mkV (ln n).2.2.2.2 ∧ (mkF ln (bkF ln n) (n + 1)).length ≤ 2
def NumO (g : Nat → Int) (L K : Nat) (pl nn : Nat → Nat) (ty va : Nat → Int) (sy sn : Nat → Nat) (st : Nat → Nat → Int) (ln : Nat → Ln) (n k : Nat) (fC fN : Nat → zM → zR) : Prop :=
  (∃ ft kf, kf ≤ K ∧ (1 ≤ ft ∧ ft ≤ 3) ∧ Cfl (CPd K pl ty va sy sn st ln n k) fC ft (pl kf) ∧ Nfl (NPd g L pl nn ty va sy sn st ln n k) fN ft (pl kf)) ∨
  ∃ (x : Ln) (kf : Nat), kf ≤ K ∧ (x.1 = (ln n).1 ∧ x.2.1 = (ln n).2.1 ∧ x.2.2.1 = (ln n).2.2.1) ∧ LI (setL ln n x) n 59399406 ∧ ((kd ty va kf = 59 ∧ Cok (CPd K pl ty va sy sn st ln n k) fC (CPd K pl ty va sy sn st (setL ln n x) n kf)) ∨ (kd ty va kf ≠ 59 ∧ Cfl (CPd K pl ty va sy sn st ln n k) fC 1 (pl kf))) ∧ Nok (NPd g L pl nn ty va sy sn st ln n k) fN 0 (NPd g L pl nn ty va sy sn st (setL ln n x) n kf)
section NUM
variable {g : Nat → Int} {L K : Nat} {pl nn : Nat → Nat} {ty va : Nat → Int} {sy sn : Nat → Nat} {st : Nat → Nat → Int}
theorem g_sgx (S : Strm g L K pl nn ty va) (hL : L ≤ 800) {k : Nat} (hk : k ≤ K) (d len : Nat) {M : zMu} (h : TkX K pl ty va M k) (ν : zNu) : ∃ x : Int32, zF zT0 (d + 1) 131 [.ref 6] (zm len M ν) = some (.int x, zm len M ν) := by
  have hKL := S.2.1.2.2.2
  have e5 := h.2.1
  have e6 := h.2.2.1
  by_cases z : k = K
  · subst z
    refine ⟨zi (-1), ?_⟩
    rw [B_X10_signBehind]
    simp (disch := omega) only [e5, e6, zbi_some, zbl_some, zbv_some, zbi_none, zbl_none, zbv_none, zbi_ite, zbl_ite, zbv_ite, zbZ, zbO, zc_lt, zc_le, zc_ge, zc_gt, zc_eq, zk0, zk1, zk2, zk3, zk4, zk5, zk6, zk7, zk8, zk9, zk10, zk11, zk12, zk14, zk15, zk16, zk17, zk19, zk20, zk21, zk24, zk25, zk30, zk32, zk36, zk40, zk45, zk50, zk64, zk97, zk99, zk100, zk102, zk122, zk128, zk255, zk800, zk801, zk900, zk999, zk1000, zk1997, zk9999, zk10000, zk100000, zk99999, zk9999999, zk999999999, zk2147483647, zlc0, zlc1, zlc2, zlc3, zlc4, zlc23, zlc99, zlc100, zlc9999999, zlc999999999999, zlc1073741824, zi_neg, zi_add, zi_sub, zi_mul, zl_neg, zl_add, zl_sub, zl_mul, zi_toInt, zi_nat, zi_le, zi_lt, zi_eq, zl_le, zl_lt, zl_eq, zl_toInt, zl_of32, zi_of64, zi_div, zl_div, zmodI, ↓reduceIte, zTle, zFle, zTlt, zFlt, zTeq, zFeq, if_true, if_false, and_self, and_true, true_and, and_false, false_and, or_self, or_true, true_or, or_false, false_or, not_true_eq_false, not_false_eq_true, zcastA, zcastL, znatC, zab, Int.reduceAdd, Int.reduceSub, Int.reduceMul, Int.reduceNeg, Int.reduceToNat, Nat.reduceAdd]
  · have x1 : 0 ≤ kd ty va (k + 1) ∧ kd ty va (k + 1) ≤ 200 := by have := (kd_c S (show k + 1 ≤ K by omega)).1; unfold Kc at this; omega
    exact ⟨_, g_sgb (show k < K by omega) (by omega) (fun q => ty_3 S (by
      rcases Nat.lt_or_ge (k + 1) K with w | w
      · exact w
      · have := (kd_c S (show k + 1 ≤ K by omega)).2.mpr (by omega)
        omega) q) x1 d len h ν⟩
/-- no COUNT begins here -/
theorem cnt_x (S : Strm g L K pl nn ty va) (hL : L ≤ 800) {k : Nat} (hk : k ≤ K) (h2 : kd ty va k ≠ 2) (h63 : kd ty va k ≠ 63) (d len : Nat) {M : zMu} (hT : TkX K pl ty va M k) (ν : zNu) (n s sa : Int32) : ∃ M', zF zT0 (d + 4) 19 [.ref 11, .int n, .int s, .int sa] (zm len M ν) = some (.int (zi 0), zm len M' ν) ∧ M' 6 7 = zi 1 ∧ M' 6 8 = zi (pl k : Int) ∧ frF M M' := by
  have hKL := S.2.1.2.2.2
  have x1 : 0 ≤ kd ty va k ∧ kd ty va k ≤ 200 := by have := (kd_c S hk).1; unfold Kc at this; omega
  have A := g_kind hk (by omega) (d + 2) len hT ν
  obtain ⟨x, V⟩ := g_valx hk (by omega) (d + 2) len hT ν
  obtain ⟨y, B⟩ := g_sgx S hL hk (d + 2) len hT ν
  obtain ⟨M', T, T1⟩ := g_fail hk (by omega) (d + 2) len hT ν 1
  refine ⟨M', ?_, T1⟩
  rw [B_X1_readCount]
  simp (disch := omega) only [V, B_X1_readCount_7, B, B_X1_readCount_16, A, B_X1_readCount_25, zq63, B_X1_readCount_35, B_X1_readCount_49, T, B_X1_readCount_61, zbi_some, zbl_some, zbv_some, zbi_none, zbl_none, zbv_none, zbi_ite, zbl_ite, zbv_ite, zbZ, zbO, zc_lt, zc_le, zc_ge, zc_gt, zc_eq, zk0, zk1, zk2, zk3, zk4, zk5, zk6, zk7, zk8, zk9, zk10, zk11, zk12, zk14, zk15, zk16, zk17, zk19, zk20, zk21, zk24, zk25, zk30, zk32, zk36, zk40, zk45, zk50, zk64, zk97, zk99, zk100, zk102, zk122, zk128, zk255, zk800, zk801, zk900, zk999, zk1000, zk1997, zk9999, zk10000, zk100000, zk99999, zk9999999, zk999999999, zk2147483647, zlc0, zlc1, zlc2, zlc3, zlc4, zlc23, zlc99, zlc100, zlc9999999, zlc999999999999, zlc1073741824, zi_neg, zi_add, zi_sub, zi_mul, zl_neg, zl_add, zl_sub, zl_mul, zi_toInt, zi_nat, zi_le, zi_lt, zi_eq, zl_le, zl_lt, zl_eq, zl_toInt, zl_of32, zi_of64, zi_div, zl_div, zmodI, ↓reduceIte, zTle, zFle, zTlt, zFlt, zTeq, zFeq, if_true, if_false, and_self, and_true, true_and, and_false, false_and, or_self, or_true, true_or, or_false, false_or, not_true_eq_false, not_false_eq_true, zcastA, zcastL, znatC, zab, Int.reduceAdd, Int.reduceSub, Int.reduceMul, Int.reduceNeg, Int.reduceToNat, Nat.reduceAdd]
/-- the class's step behind a COUNT -/
theorem num_st (S : Strm g L K pl nn ty va) (hL : L ≤ 800) {k j : Nat} (hk : k + 1 < K) (h3 : kd ty va (k + 1) = 3) (hv : va (k + 1) = (j : Int)) {ln : Nat → Ln} {n : Nat} (d len : Nat) {M : zMu} (hP : CPd K pl ty va sy sn st ln n (k + 1) M) (ν : zNu) (x1 x2 x3 : Int32) (i : Nat) (hi : i ≤ 6) : ∃ M', zE zc_X1_readNumeral (zF zT0 (d + 4)) 58 [.ref 11, .int x1, .int x2, .int x3, .int (zi (i : Int))] [.int (zi 1)] (zm len M ν) = zE zc_X1_readNumeral (zF zT0 (d + 4)) 25 [.ref 11, .int x1, .int x2, .int (zi (j : Int)), .int (zi ((i + 1 : Nat) : Int))] [] (zm len M' ν) ∧ CPd K pl ty va sy sn st ln n (k + 2) M' ∧ frF M M' := by
  have hKL := S.2.1.2.2.2
  obtain ⟨hT, hX, hD⟩ := hP
  have t3 := ty_3 S hk h3
  have V := g_val (Nat.le_of_lt hk) (by omega) (by omega) (d + 3) len hT ν
  obtain ⟨T, hT1⟩ := g_move hk (by omega) (d + 3) len hT ν
  rw [hv] at V
  have f : frF M (zup M 6 6 (zi (((k + 1 : Nat) : Int) + 1))) := frF_6 (frF_rf M) (by omega)
  refine ⟨_, ?_, ⟨hT1, NX_d hX f, hD⟩, f⟩
  have e : (1 : Int32) = zi 1 := rfl
  rw [B_X1_readNumeral_58, if_neg zz_10, V, zbi_some, B_X1_readNumeral_70, T, zbv_some, B_X1_readNumeral_78, e, zi_add]
  rfl
theorem num_c (S : Strm g L K pl nn ty va) (hL : L ≤ 800) (hg : ∀ i, 0 ≤ g i ∧ g i ≤ 255) (hNP : NP sy sn st) {k : Nat} (hk : k < K) (hkd : kd ty va k = 2 ∨ kd ty va k = 63) {n gg sa i : Nat} (hn : n < 24) (hgg : gg < 8) (hsa : sa ≤ 6) (hi : i ≤ 6) {ln : Nat → Ln} (eg : (ln n).2.1 = (gg : Int)) (hm3 : ∀ i, i < n → (ln i).2.2.2.2.length ≤ 3) (hI : LI ln n ((6 - (sa : Int)) * 9899901))
    (IH : ∀ (j k' : Nat) (ln' : Nat → Ln), j < sa → k' ≤ K → (ln' n).2.1 = (gg : Int) → (∀ i, i < n → (ln' i).2.2.2.2.length ≤ 3) → LI ln' n ((6 - (j : Int)) * 9899901) → NumO g L K pl nn ty va sy sn st ln' n k' (fun d => zE zc_X1_readNumeral (zF zT0 (d + 4)) 25 [.ref 11, .int (zi (n : Int)), .int (zi (sy gg : Int)), .int (zi (j : Int)), .int (zi ((i + 1 : Nat) : Int))] []) (fun d => zE zc_X12_readNumeral (zF zT0 (d + 4)) 99 [.ref 92, .int (zi ((288 + n : Nat) : Int)), .int (zi (j : Int))] [])) :
    NumO g L K pl nn ty va sy sn st ln n k (fun d => zE zc_X1_readNumeral (zF zT0 (d + 4)) 51 [.ref 11, .int (zi (n : Int)), .int (zi (sy gg : Int)), .int (zi (sa : Int)), .int (zi (i : Int))] []) (fun d => zE zc_X12_readNumeral (zF zT0 (d + 4)) 116 [.ref 92, .int (zi ((288 + n : Nat) : Int)), .int (zi (sa : Int))] []) := by
  obtain ⟨⟨hI1, hI2⟩, hI3, hI4⟩ := hI
  rcases count_j S hL hg hNP hk hkd hn hgg hsa eg hm3 hI4 with ⟨ft, kf, c1, c2, C, N⟩ | ⟨add, ms, j, a1, a2, a3, a4, a5, a6, a7, C, N⟩
  · refine Or.inl ⟨ft, kf, c1, c2, fun d len M ν hP => ?_, fun d len Y ν r hP => ?_⟩
    · obtain ⟨M', A, A1⟩ := C d len M ν hP
      refine ⟨M', ?_, A1⟩
      show zE zc_X1_readNumeral (zF zT0 (d + 4)) 51 _ [] (zm len M ν) = _
      rw [B_X1_readNumeral_51, show zF zT0 (d + 4) 19 _ (zm len M ν) = _ from A, zbi_some, B_X1_readNumeral_58, if_pos zz_0]
      rfl
    · obtain ⟨r', Y', ν', A, A1⟩ := N d len Y ν r hP
      refine ⟨r', Y', ν', ?_, A1⟩
      show zE zc_X12_readNumeral (zF zT0 (d + 4)) 116 _ [] (zm len (zrw Y 92 r) ν) = _
      rw [B_X12_readNumeral_116, show zF zT0 (d + 4) 207 _ (zm len (zrw Y 92 r) ν) = _ from A, zbi_some, B_X12_readNumeral_122, if_pos zz_m1]
      rfl
  · have eg' : ((setL ln n (addm (ln n) add ms)) n).2.1 = (gg : Int) := by rw [setL_n]; exact eg
    have lo : ∀ i, i < n → (setL ln n (addm (ln n) add ms)) i = ln i := fun i hi => setL_o ln _ (by omega)
    have hI' : LI (setL ln n (addm (ln n) add ms)) n ((6 - (j : Int)) * 9899901) := by
      refine ⟨?_, ?_, ?_⟩
      · rw [setL_n]
        show 0 ≤ (ln n).2.2.2.1 + add ∧ (ln n).2.2.2.1 + add ≤ _
        omega
      · rw [setL_n]
        intro p hp
        rcases List.mem_append.mp hp with q | q
        · exact hI3 p q
        · exact a2 p q
      · rw [mk_set ln (x := addm (ln n) add ms) rfl]
        rw [mk_len] at a3
        show (mkF ln (bkF ln n) n).length + ((ln n).2.2.2.2 ++ ms).length ≤ 2
        rw [List.length_append]
        omega
    have CS : ∀ (d len : Nat) (M : zMu) (ν : zNu), CPd K pl ty va sy sn st ln n k M → ∃ M', zE zc_X1_readNumeral (zF zT0 (d + 4)) 51 [.ref 11, .int (zi (n : Int)), .int (zi (sy gg : Int)), .int (zi (sa : Int)), .int (zi (i : Int))] [] (zm len M ν) = zE zc_X1_readNumeral (zF zT0 (d + 4)) 25 [.ref 11, .int (zi (n : Int)), .int (zi (sy gg : Int)), .int (zi (j : Int)), .int (zi ((i + 1 : Nat) : Int))] [] (zm len M' ν) ∧ CPd K pl ty va sy sn st (setL ln n (addm (ln n) add ms)) n (k + 2) M' ∧ frF M M' := fun d len M ν hP => by
      obtain ⟨M1, A, A1, A2⟩ := C d len M ν hP
      obtain ⟨M2, B, B1, B2⟩ := num_st S hL a5 a6 a7 d len A1 ν (zi (n : Int)) (zi (sy gg : Int)) (zi (sa : Int)) i hi
      refine ⟨M2, ?_, B1, frF_tr A2 B2⟩
      rw [B_X1_readNumeral_51, show zF zT0 (d + 4) 19 _ (zm len M ν) = _ from A, zbi_some]
      exact B
    have NS : ∀ (d len : Nat) (Y : zMu) (ν : zNu) (r : Nat → Int32), NPd g L pl nn ty va sy sn st ln n k Y ν r → ∃ r' Y' ν', zE zc_X12_readNumeral (zF zT0 (d + 4)) 116 [.ref 92, .int (zi ((288 + n : Nat) : Int)), .int (zi (sa : Int))] [] (zm len (zrw Y 92 r) ν) = zE zc_X12_readNumeral (zF zT0 (d + 4)) 99 [.ref 92, .int (zi ((288 + n : Nat) : Int)), .int (zi (j : Int))] [] (zm len (zrw Y' 92 r') ν') ∧ NPd g L pl nn ty va sy sn st (setL ln n (addm (ln n) add ms)) n (k + 2) Y' ν' r' ∧ fr4 r r' ∧ frN Y Y' ν ν' := fun d len Y ν r hP => by
      obtain ⟨r', Y', ν', A, A1⟩ := N d len Y ν r hP
      refine ⟨r', Y', ν', ?_, A1⟩
      rw [B_X12_readNumeral_116, show zF zT0 (d + 4) 207 _ (zm len (zrw Y 92 r) ν) = _ from A, zbi_some, B_X12_readNumeral_122, if_neg (zi_nm1 (by omega))]
    rcases IH j (k + 2) _ a4 (by omega) eg' (fun i hi => by rw [lo i hi]; exact hm3 i hi) hI' with ⟨ft, kf, c1, c2, C2, N2⟩ | ⟨x, kf, c1, c2, c3, C2, N2⟩
    · refine Or.inl ⟨ft, kf, c1, c2, fun d len M ν hP => ?_, fun d len Y ν r hP => ?_⟩
      · obtain ⟨M1, A, A1, A2⟩ := CS d len M ν hP
        obtain ⟨M2, B, B1, B2, B3⟩ := C2 d len M1 ν A1
        exact ⟨M2, A.trans B, B1, B2, frF_tr A2 B3⟩
      · obtain ⟨r1, Y1, ν1, A, A1, A2, A3⟩ := NS d len Y ν r hP
        obtain ⟨r2, Y2, ν2, B, B1, B2, B3, B4⟩ := N2 d len Y1 ν1 r1 A1
        exact ⟨r2, Y2, ν2, A.trans B, B1, B2, fr6_4 A2 B3, frN_tr A3 B4⟩
    · rw [setL_S] at c3 C2 N2
      rw [setL_n] at c2
      refine Or.inr ⟨x, kf, c1, c2, c3, ?_, fun d len Y ν r hP => ?_⟩
      · rcases C2 with ⟨y, C2⟩ | ⟨y, C2⟩
        · refine Or.inl ⟨y, fun d len M ν hP => ?_⟩
          obtain ⟨M1, A, A1, A2⟩ := CS d len M ν hP
          obtain ⟨M2, B, B1, B2⟩ := C2 d len M1 ν A1
          exact ⟨M2, A.trans B, B1, frF_tr A2 B2⟩
        · refine Or.inr ⟨y, fun d len M ν hP => ?_⟩
          obtain ⟨M1, A, A1, A2⟩ := CS d len M ν hP
          obtain ⟨M2, B, B1, B2, B3⟩ := C2 d len M1 ν A1
          exact ⟨M2, A.trans B, B1, B2, frF_tr A2 B3⟩
      · obtain ⟨r1, Y1, ν1, A, A1, A2, A3⟩ := NS d len Y ν r hP
        obtain ⟨r2, Y2, ν2, B, B1, B2, B3⟩ := N2 d len Y1 ν1 r1 A1
        exact ⟨r2, Y2, ν2, A.trans B, B1, fr4_tr A2 B2, frN_tr A3 B3⟩
theorem m_sg9 (S : Strm g L K pl nn ty va) {k : Nat} (hk : k ≤ K) {r : Nat → Int32} (hM : MS pl nn ty va r k) : (kd ty va k = 2 → r 9 = (3 : Int32)) ∧ (kd ty va k ≠ 2 → ¬ r 9 = (3 : Int32)) := by
  obtain ⟨x9, x10, n1, n2, n3⟩ := MS_n S hk hM
  have z3 : (3 : Int32) = zi 3 := rfl
  refine ⟨fun h => ?_, fun h q => ?_⟩
  · have : x9 = 3 := by unfold Mt at n1; omega
    rw [n2, this]
    rfl
  · rw [n2, z3, zi_eq (by unfold Mt at n1; omega)] at q
    unfold Mt at n1
    omega
theorem num_l (S : Strm g L K pl nn ty va) (hL : L ≤ 800) (hg : ∀ i, 0 ≤ g i ∧ g i ≤ 255) (hNP : NP sy sn st) {n gg : Nat} (hn : n < 24) (hgg : gg < 8) : ∀ m sa i k : Nat, ∀ ln : Nat → Ln, sa ≤ m → sa + i ≤ 6 → 1 ≤ i → k ≤ K → (ln n).2.1 = (gg : Int) → (∀ i, i < n → (ln i).2.2.2.2.length ≤ 3) → LI ln n ((6 - (sa : Int)) * 9899901) → NumO g L K pl nn ty va sy sn st ln n k (fun d => zE zc_X1_readNumeral (zF zT0 (d + 4)) 25 [.ref 11, .int (zi (n : Int)), .int (zi (sy gg : Int)), .int (zi (sa : Int)), .int (zi (i : Int))] []) (fun d => zE zc_X12_readNumeral (zF zT0 (d + 4)) 99 [.ref 92, .int (zi ((288 + n : Nat) : Int)), .int (zi (sa : Int))] []) := by
  intro m
  induction m with
  | zero => ?_
  | succ m ih => ?_
  all_goals
    intro sa i k ln hm hsi hi hk eg hm3 hI
    have hKL := S.2.1.2.2.2
    have x1 : 0 ≤ kd ty va k ∧ kd ty va k ≤ 200 := by have := (kd_c S hk).1; unfold Kc at this; omega
    have z59 : (59 : Int32) = zi 59 := rfl
    have C25 : ∀ (d len : Nat) (M : zMu) (ν : zNu), CPd K pl ty va sy sn st ln n k M → zE zc_X1_readNumeral (zF zT0 (d + 4)) 25 [.ref 11, .int (zi (n : Int)), .int (zi (sy gg : Int)), .int (zi (sa : Int)), .int (zi (i : Int))] [] (zm len M ν) = if kd ty va k = 59 then some (.int (zi 1), zm len M ν) else zE zc_X1_readNumeral (zF zT0 (d + 4)) 51 [.ref 11, .int (zi (n : Int)), .int (zi (sy gg : Int)), .int (zi (sa : Int)), .int (zi (i : Int))] [] (zm len M ν) := fun d len M ν hP => by
      have A := g_kind hk (by omega) (d + 3) len hP.1 ν
      rw [B_X1_readNumeral_25]
      by_cases z : kd ty va k = 59
      · rw [if_pos z]
        simp (disch := omega) only [A, B_X1_readNumeral_44, z59, z, zbi_some, zbl_some, zbv_some, zbi_none, zbl_none, zbv_none, zbi_ite, zbl_ite, zbv_ite, zbZ, zbO, zc_lt, zc_le, zc_ge, zc_gt, zc_eq, zk0, zk1, zk2, zk3, zk4, zk5, zk6, zk7, zk8, zk9, zk10, zk11, zk12, zk14, zk15, zk16, zk17, zk19, zk20, zk21, zk24, zk25, zk30, zk32, zk36, zk40, zk45, zk50, zk64, zk97, zk99, zk100, zk102, zk122, zk128, zk255, zk800, zk801, zk900, zk999, zk1000, zk1997, zk9999, zk10000, zk100000, zk99999, zk9999999, zk999999999, zk2147483647, zlc0, zlc1, zlc2, zlc3, zlc4, zlc23, zlc99, zlc100, zlc9999999, zlc999999999999, zlc1073741824, zi_neg, zi_add, zi_sub, zi_mul, zl_neg, zl_add, zl_sub, zl_mul, zi_toInt, zi_nat, zi_le, zi_lt, zi_eq, zl_le, zl_lt, zl_eq, zl_toInt, zl_of32, zi_of64, zi_div, zl_div, zmodI, ↓reduceIte, zTle, zFle, zTlt, zFlt, zTeq, zFeq, if_true, if_false, and_self, and_true, true_and, and_false, false_and, or_self, or_true, true_or, or_false, false_or, not_true_eq_false, not_false_eq_true, zcastA, zcastL, znatC, zab, Int.reduceAdd, Int.reduceSub, Int.reduceMul, Int.reduceNeg, Int.reduceToNat, Nat.reduceAdd]
      · rw [if_neg z]
        simp (disch := omega) only [A, B_X1_readNumeral_44, z59, z, zbi_some, zbl_some, zbv_some, zbi_none, zbl_none, zbv_none, zbi_ite, zbl_ite, zbv_ite, zbZ, zbO, zc_lt, zc_le, zc_ge, zc_gt, zc_eq, zk0, zk1, zk2, zk3, zk4, zk5, zk6, zk7, zk8, zk9, zk10, zk11, zk12, zk14, zk15, zk16, zk17, zk19, zk20, zk21, zk24, zk25, zk30, zk32, zk36, zk40, zk45, zk50, zk64, zk97, zk99, zk100, zk102, zk122, zk128, zk255, zk800, zk801, zk900, zk999, zk1000, zk1997, zk9999, zk10000, zk100000, zk99999, zk9999999, zk999999999, zk2147483647, zlc0, zlc1, zlc2, zlc3, zlc4, zlc23, zlc99, zlc100, zlc9999999, zlc999999999999, zlc1073741824, zi_neg, zi_add, zi_sub, zi_mul, zl_neg, zl_add, zl_sub, zl_mul, zi_toInt, zi_nat, zi_le, zi_lt, zi_eq, zl_le, zl_lt, zl_eq, zl_toInt, zl_of32, zi_of64, zi_div, zl_div, zmodI, ↓reduceIte, zTle, zFle, zTlt, zFlt, zTeq, zFeq, if_true, if_false, and_self, and_true, true_and, and_false, false_and, or_self, or_true, true_or, or_false, false_or, not_true_eq_false, not_false_eq_true, zcastA, zcastL, znatC, zab, Int.reduceAdd, Int.reduceSub, Int.reduceMul, Int.reduceNeg, Int.reduceToNat, Nat.reduceAdd]
    have N99 : ∀ (d len : Nat) (Y : zMu) (ν : zNu) (r : Nat → Int32), NPd g L pl nn ty va sy sn st ln n k Y ν r → zE zc_X12_readNumeral (zF zT0 (d + 4)) 99 [.ref 92, .int (zi ((288 + n : Nat) : Int)), .int (zi (sa : Int))] [] (zm len (zrw Y 92 r) ν) = if kd ty va k = 2 ∨ kd ty va k = 63 then zE zc_X12_readNumeral (zF zT0 (d + 4)) 116 [.ref 92, .int (zi ((288 + n : Nat) : Int)), .int (zi (sa : Int))] [] (zm len (zrw Y 92 r) ν) else some (.int (zi 0), zm len (zrw Y 92 r) ν) := fun d len Y ν r hP => by
      obtain ⟨_, _, _, hM, _⟩ := hP
      have s9 := m_sg9 S hk hM
      have s1 := n_sg S hk hM (d + 3) len Y ν (c := 63) (by decide)
      have s1 : zF zT0 (d + 4) 205 [.ref 92, .int 63] (zm len (zrw Y 92 r) ν) = _ := s1
      rw [B_X12_readNumeral_99, zrw_s]
      by_cases z : kd ty va k = 2
      · rw [if_pos (s9.1 z), if_pos (Or.inl z)]
      · rw [if_neg (s9.2 z), s1, zbi_some, B_X12_readNumeral_113]
        by_cases y : kd ty va k = 63
        · rw [if_pos (Or.inr y)]
          simp (disch := omega) only [y, zbT, zbi_some, zbl_some, zbv_some, zbi_none, zbl_none, zbv_none, zbi_ite, zbl_ite, zbv_ite, zbZ, zbO, zc_lt, zc_le, zc_ge, zc_gt, zc_eq, zk0, zk1, zk2, zk3, zk4, zk5, zk6, zk7, zk8, zk9, zk10, zk11, zk12, zk14, zk15, zk16, zk17, zk19, zk20, zk21, zk24, zk25, zk30, zk32, zk36, zk40, zk45, zk50, zk64, zk97, zk99, zk100, zk102, zk122, zk128, zk255, zk800, zk801, zk900, zk999, zk1000, zk1997, zk9999, zk10000, zk100000, zk99999, zk9999999, zk999999999, zk2147483647, zlc0, zlc1, zlc2, zlc3, zlc4, zlc23, zlc99, zlc100, zlc9999999, zlc999999999999, zlc1073741824, zi_neg, zi_add, zi_sub, zi_mul, zl_neg, zl_add, zl_sub, zl_mul, zi_toInt, zi_nat, zi_le, zi_lt, zi_eq, zl_le, zl_lt, zl_eq, zl_toInt, zl_of32, zi_of64, zi_div, zl_div, zmodI, ↓reduceIte, zTle, zFle, zTlt, zFlt, zTeq, zFeq, if_true, if_false, and_self, and_true, true_and, and_false, false_and, or_self, or_true, true_or, or_false, false_or, not_true_eq_false, not_false_eq_true, zcastA, zcastL, znatC, zab, Int.reduceAdd, Int.reduceSub, Int.reduceMul, Int.reduceNeg, Int.reduceToNat, Nat.reduceAdd]
        · rw [if_neg (show ¬ (kd ty va k = 2 ∨ kd ty va k = 63) by omega)]
          simp (disch := omega) only [y, zbF, zbi_some, zbl_some, zbv_some, zbi_none, zbl_none, zbv_none, zbi_ite, zbl_ite, zbv_ite, zbZ, zbO, zc_lt, zc_le, zc_ge, zc_gt, zc_eq, zk0, zk1, zk2, zk3, zk4, zk5, zk6, zk7, zk8, zk9, zk10, zk11, zk12, zk14, zk15, zk16, zk17, zk19, zk20, zk21, zk24, zk25, zk30, zk32, zk36, zk40, zk45, zk50, zk64, zk97, zk99, zk100, zk102, zk122, zk128, zk255, zk800, zk801, zk900, zk999, zk1000, zk1997, zk9999, zk10000, zk100000, zk99999, zk9999999, zk999999999, zk2147483647, zlc0, zlc1, zlc2, zlc3, zlc4, zlc23, zlc99, zlc100, zlc9999999, zlc999999999999, zlc1073741824, zi_neg, zi_add, zi_sub, zi_mul, zl_neg, zl_add, zl_sub, zl_mul, zi_toInt, zi_nat, zi_le, zi_lt, zi_eq, zl_le, zl_lt, zl_eq, zl_toInt, zl_of32, zi_of64, zi_div, zl_div, zmodI, ↓reduceIte, zTle, zFle, zTlt, zFlt, zTeq, zFeq, if_true, if_false, and_self, and_true, true_and, and_false, false_and, or_self, or_true, true_or, or_false, false_or, not_true_eq_false, not_false_eq_true, zcastA, zcastL, znatC, zab, Int.reduceAdd, Int.reduceSub, Int.reduceMul, Int.reduceNeg, Int.reduceToNat, Nat.reduceAdd]
    by_cases c : kd ty va k = 2 ∨ kd ty va k = 63
    · have hkK : k < K := by
        rcases Nat.lt_or_ge k K with w | w
        · exact w
        · have := (kd_c S hk).2.mpr (by omega)
          omega
      have O := num_c S hL hg hNP hkK c hn hgg (show sa ≤ 6 by omega) (show i ≤ 6 by omega) eg hm3 hI (by
        intro j k' ln' hj hk' eg' hm3' hI'
        first
          | exact absurd hj (by omega)
          | exact ih j (i + 1) k' ln' (by omega) (by omega) (by omega) hk' eg' hm3' hI')
      have c59 : ¬ kd ty va k = 59 := by omega
      rcases O with ⟨ft, kf, c1, c2, C2, N2⟩ | ⟨x, kf, c1, c2, c3, C2, N2⟩
      · refine Or.inl ⟨ft, kf, c1, c2, fun d len M ν hP => ?_, fun d len Y ν r hP => ?_⟩
        · have A := C25 d len M ν hP
          rw [if_neg c59] at A
          obtain ⟨M2, B, B1⟩ := C2 d len M ν hP
          exact ⟨M2, A.trans B, B1⟩
        · have A := N99 d len Y ν r hP
          rw [if_pos c] at A
          obtain ⟨r2, Y2, ν2, B, B1⟩ := N2 d len Y ν r hP
          exact ⟨r2, Y2, ν2, A.trans B, B1⟩
      · refine Or.inr ⟨x, kf, c1, c2, c3, ?_, fun d len Y ν r hP => ?_⟩
        · rcases C2 with ⟨y, C2⟩ | ⟨y, C2⟩
          · refine Or.inl ⟨y, fun d len M ν hP => ?_⟩
            have A := C25 d len M ν hP
            rw [if_neg c59] at A
            obtain ⟨M2, B, B1⟩ := C2 d len M ν hP
            exact ⟨M2, A.trans B, B1⟩
          · refine Or.inr ⟨y, fun d len M ν hP => ?_⟩
            have A := C25 d len M ν hP
            rw [if_neg c59] at A
            obtain ⟨M2, B, B1⟩ := C2 d len M ν hP
            exact ⟨M2, A.trans B, B1⟩
        · have A := N99 d len Y ν r hP
          rw [if_pos c] at A
          obtain ⟨r2, Y2, ν2, B, B1⟩ := N2 d len Y ν r hP
          exact ⟨r2, Y2, ν2, A.trans B, B1⟩
    · have hI6 : LI (setL ln n (ln n)) n 59399406 := by
        rw [setL_id]
        exact ⟨⟨hI.1.1, by have := hI.1.2; omega⟩, hI.2⟩
      refine Or.inr ⟨ln n, k, hk, ⟨rfl, rfl, rfl⟩, hI6, ?_, fun d len Y ν r hP => ?_⟩
      · rw [setL_id]
        by_cases z : kd ty va k = 59
        · refine Or.inl ⟨z, fun d len M ν hP => ⟨M, ?_, hP, frF_rf M⟩⟩
          have A := C25 d len M ν hP
          rw [if_pos z] at A
          exact A
        · refine Or.inr ⟨z, fun d len M ν hP => ?_⟩
          have A := C25 d len M ν hP
          rw [if_neg z] at A
          obtain ⟨M', B, B1⟩ := cnt_x S hL hk (fun q => c (Or.inl q)) (fun q => c (Or.inr q)) d len hP.1 ν (zi (n : Int)) (zi (sy gg : Int)) (zi (sa : Int))
          refine ⟨M', ?_, B1⟩
          refine A.trans ?_
          rw [B_X1_readNumeral_51, B, zbi_some, B_X1_readNumeral_58, if_pos zz_0]
          rfl
      · have A := N99 d len Y ν r hP
        rw [if_neg c] at A
        rw [setL_id]
        exact ⟨r, Y, ν, A, hP, fun _ _ _ _ _ => rfl, frN_rf _ _⟩
end NUM

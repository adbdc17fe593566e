/-! RULES: rules() agrees, whole -/
theorem Rgiv_keep {r58 r59 r60 r61 m139 m140 m141 m142 m143 m144 n139 n140 n141 n142 n143 n144 : Nat → Int32} {op arg : Nat → Int} {hd : Int} {l fr s to : Nat} (h : Rgiv r58 r59 r60 r61 m139 m140 m141 m142 m143 m144 op arg hd l fr s to) (e1 : n139 (16 * hd + (l : Int)).toNat = m139 (16 * hd + (l : Int)).toNat) (e2 : n140 (16 * hd + (l : Int)).toNat = m140 (16 * hd + (l : Int)).toNat) (e3 : n141 (16 * hd + (l : Int)).toNat = m141 (16 * hd + (l : Int)).toNat) (e4 : n142 (16 * hd + (l : Int)).toNat = m142 (16 * hd + (l : Int)).toNat) (e5 : ∀ k : Nat, k < 800 → n143 (800 * hd + (k : Int)).toNat = m143 (800 * hd + (k : Int)).toNat) (e6 : ∀ k : Nat, k < 800 → n144 (800 * hd + (k : Int)).toNat = m144 (800 * hd + (k : Int)).toNat) : Rgiv r58 r59 r60 r61 n139 n140 n141 n142 n143 n144 op arg hd l fr s to := by
  obtain ⟨h1, ⟨g, g1, g2, g3⟩, h3, h4, h5, h6, h7, h8, h9, h10, h11, h12⟩ := h
  refine ⟨h1, ⟨g, g1, g2, e1.trans g3⟩, h3, h4, h5, h6, e2.trans h7, e3.trans h8, e4.trans h9, h10, h11, fun k k1 k2 => ?_⟩
  obtain ⟨a1, a2, a3⟩ := h12 k k1 k2
  exact ⟨a1, (e5 k (by omega)).trans a2, (e6 k (by omega)).trans a3⟩
/-- a row that reading leaves alone -/
def rdR (r : Nat) : Prop := (r ≠ 6 ∧ r ≠ 8 ∧ r ≠ 9 ∧ r ≠ 10) ∧ (r ≠ 57 ∧ r ≠ 58 ∧ r ≠ 59 ∧ r ≠ 60 ∧ r ≠ 61) ∧ (r ≠ 62 ∧ r ≠ 63 ∧ r ≠ 64 ∧ r ≠ 65)
theorem ag_rules (d len : Nat) (μ : zMu) (ν : zNu) (ht : RtxtM μ) (hr : RrulM μ) (hw : RwrdM μ) : ∃ (v : Int32) (μ1 μ2 : zMu), zF zT0 (d + 40) 144 [.ref 1] (zm len μ ν) = some (.int v, zm len μ1 ν) ∧ zF zT0 (d + 40) 263 [.ref 92] (zm len μ1 ν) = some (.int v, zm len μ2 ν) ∧ (RtxtM μ2 ∧ RrulM μ2 ∧ RfltM μ2) ∧ zfr [6, 8, 9, 10, 57, 58, 59, 60, 61, 62, 63, 64, 65, 138, 139, 140, 141, 142, 143, 144, 145] [0, 6, 7, 8, 9, 10, 12, 13, 14, 15, 67, 75, 76, 78] μ μ2 := by
  obtain ⟨L, g, hL, t1, t2, hg, t3, t4⟩ := txt_n ht
  obtain ⟨_, _, _, t5, t6⟩ := ht
  obtain ⟨K, pl, nn, ty, va, S⟩ := strm_ex g hg L hL
  have hKL := S.2.1.2.2.2
  obtain ⟨c, a, b, p, hsp, ⟨c1, c5, c6, c7, c8⟩, hT⟩ := F_split (d + 31) len μ ν g L K pl nn ty va hL hg t3 t1 S
  obtain ⟨X, hX⟩ : ∃ X, X = zrw (zrw (zrw μ 8 a) 9 b) 10 p := ⟨_, rfl⟩
  obtain ⟨q, hq⟩ : ∃ q, q = upd (μ 57) 6 (zi 0) := ⟨_, rfl⟩
  have mem0 : zup (zup (M4 μ c a b p) 57 6 (zi 0)) 57 7 (zi 0) = ST X c q 0 0 (μ 62) := by
    have e0 : upd c 6 (zi ((0 : Nat) : Int)) = c := upd_idx c6
    show zup (zup (M4 μ c a b p) 57 6 (zi 0)) 57 7 (zi 0) = zrw (zrw (zrw X 6 (upd c 6 (zi ((0 : Nat) : Int)))) 57 (upd q 7 (zi ((0 : Nat) : Int)))) 62 (μ 62)
    rw [e0, zup_rw, zup_rw, zrw_zrw, zrw_s, hX, hq]
    funext x
    by_cases h62 : x = 62
    · subst h62; rfl
    by_cases h57 : x = 57
    · subst h57; rfl
    by_cases h6 : x = 6
    · subst h6; rfl
    by_cases h8 : x = 8
    · subst h8; rfl
    by_cases h9 : x = 9
    · subst h9; rfl
    by_cases h10 : x = 10
    · subst h10; rfl
    simp only [M4, zrw, h62, h57, h6, h8, h9, h10, if_false]
  have CL : zF zT0 (d + 40) 144 [.ref 1] (zm len μ ν) = zbi (zE zc_X7_read (zF zT0 (d + 38)) 12 [.ref 57, .int (zi 0)] [] (zm len (ST X c q 0 0 (μ 62)) ν)) (fun w' M' => zE zc_X11_rules (zF zT0 (d + 39)) 14 [.ref 1] [.int w'] M') := by
    rw [B_X11_rules, ← mem0]
    simp (disch := omega) only [hsp, B_X11_rules_7, B_X7_read, zbi_some, zbl_some, zbv_some, zbi_none, zbl_none, zbv_none, zbi_ite, zbl_ite, zbv_ite, zbZ, zbO, zc_lt, zc_le, zc_ge, zc_gt, zc_eq, zk0, zk1, zk2, zk3, zk4, zk5, zk6, zk7, zk8, zk9, zk10, zk11, zk12, zk14, zk15, zk16, zk17, zk19, zk20, zk21, zk24, zk25, zk30, zk32, zk36, zk40, zk45, zk50, zk64, zk97, zk99, zk100, zk102, zk122, zk128, zk255, zk800, zk801, zk900, zk999, zk1000, zk1997, zk9999, zk10000, zk100000, zk99999, zk9999999, zk999999999, zk2147483647, zlc0, zlc1, zlc2, zlc3, zlc4, zlc23, zlc99, zlc100, zlc9999999, zlc999999999999, zlc1073741824, zi_neg, zi_add, zi_sub, zi_mul, zl_neg, zl_add, zl_sub, zl_mul, zi_toInt, zi_nat, zi_le, zi_lt, zi_eq, zl_le, zl_lt, zl_eq, zl_toInt, zl_of32, zi_of64, zi_div, zl_div, zmodI, ↓reduceIte, zTle, zFle, zTlt, zFlt, zTeq, zFeq, if_true, if_false, and_self, and_true, true_and, and_false, false_and, or_self, or_true, true_or, or_false, false_or, not_true_eq_false, not_false_eq_true, zcastA, zcastL, znatC, zab, Int.reduceAdd, Int.reduceSub, Int.reduceMul, Int.reduceNeg, Int.reduceToNat, Nat.reduceAdd]
  have hCX : CcX K pl ty va X := by rw [hX]; exact hT
  have rowX : ∀ r, r ≠ 8 → r ≠ 9 → r ≠ 10 → X r = μ r := fun r h8 h9 h10 => by rw [hX, zrw_n _ _ h10, zrw_n _ _ h9, zrw_n _ _ h8]
  have hR := hr
  obtain ⟨hd, n0, op0, ar0, hhd, hn0, e57, e67, e138, hG⟩ := hr
  obtain ⟨B, hB⟩ : ∃ B : Nat, (B : Int) = 800 * (1 - hd) := ⟨(800 * (1 - hd)).toNat, by omega⟩
  obtain ⟨l, hl⟩ : ∃ l : Nat, (l : Int) = 16 * (1 - hd) := ⟨(16 * (1 - hd)).toNat, by omega⟩
  rcases rr_ok S hL hg K 0 (by omega) (by omega) 0 (by decide) with ⟨gl, ⟨g1, g2⟩, hV, hRC, hRM⟩ | ⟨ft, kf, hRC, hRM⟩
  · obtain ⟨x, E1⟩ := hRC (d + 38) len X ν c q (μ 62) 0 (by omega) hCX c5 (Nat.le_refl _) (by rw [hq]; rfl)
    rw [Nat.zero_add] at E1 g1 g2
    rw [Nat.zero_add] at E1
    obtain ⟨M, hM⟩ : ∃ M, M = ST (GX gl X 0 0) c (upd q 6 (zi (gl.length : Int))) K (gco gl).length (wrL (μ 62) 0 ((gco gl).map opc)) := ⟨_, rfl⟩
    rw [← hM] at E1
    have E2 := F_43 (zF zT0 (d + 38)) len M ν x (gco gl).length gl.length (by omega) g1 (by rw [hM]; rfl) (by rw [hM]; rfl)
    obtain ⟨μ1, hμ1⟩ : ∃ μ1, μ1 = C5 M (gco gl).length gl.length := ⟨_, rfl⟩
    have row1 : ∀ r, rdR r → μ1 r = μ r := fun r ⟨⟨h6, h8, h9, h10⟩, ⟨h57, h58, h59, h60, h61⟩, h62, h63, h64, h65⟩ => by
      rw [hμ1, hM]
      unfold C5
      rw [zrw_n _ _ h61, zrw_n _ _ h60, zrw_n _ _ h59, zrw_n _ _ h58, zup_ne _ _ _ h57]
      show zrw (zrw (zrw (GX gl X 0 0) 6 _) 57 _) 62 _ r = μ r
      rw [zrw_n _ _ h62, zrw_n _ _ h57, zrw_n _ _ h6, GX_row gl X 0 0 r h63 h64 h65, rowX r h8 h9 h10]
    have m57 : μ1 57 1 = zi (gl.length : Int) := by rw [hμ1]; rfl
    have hY : CcY g μ1 := ⟨fun i => by rw [row1 96 (by unfold rdR; decide)]; exact t4 i, fun i hi => by rw [row1 97 (by unfold rdR; decide)]; exact hw i hi⟩
    obtain ⟨r, F1, b1, b2, b3, b4, b5, b6, b7, b8⟩ := rules_m d len μ1 ν g L K pl nn ty va S hL hg hY (by rw [row1 92 (by unfold rdR; decide)]; exact t2)
    obtain ⟨r3, e3, F2, F3⟩ := hRM (d + 29) len μ1 ν r (μ1 143) (μ1 144) (μ1 145) 0 B l hd hhd hB hl hY b2 (by rw [b3, row1 92 (by unfold rdR; decide)]; exact e67) b4 b1 b5 (Nat.le_refl _)
    rw [Nat.zero_add, Nat.add_zero, Nat.add_zero] at F2
    have f67 : r3 67 = zi hd := by rw [F3 67 (by decide) (by decide) (by decide) (by decide) (by decide) (by decide) (by decide), b3, row1 92 (by unfold rdR; decide)]; exact e67
    obtain ⟨μ2, hμ2⟩ : ∃ μ2, μ2 = Mm (zup (GY gl μ1 l 0) 138 (1 - hd).toNat (zi (gl.length : Int))) (upd (upd r3 6 (zi 0)) 67 (zi (1 - hd))) (wrL (μ1 143) B ((gco gl).map opo)) (wrL (μ1 144) B ((gco gl).map opa)) e3 := ⟨_, rfl⟩
    have row2 : ∀ r, r ≠ 92 → r ≠ 138 → r ≠ 139 → r ≠ 140 → r ≠ 141 → r ≠ 142 → r ≠ 143 → r ≠ 144 → r ≠ 145 → μ2 r = μ1 r := fun r h92 h138 h139 h140 h141 h142 h143 h144 h145 => by
      rw [hμ2]
      show zrw (zrw (zrw (zrw (zup (GY gl μ1 l 0) 138 _ _) 143 _) 144 _) 145 _) 92 _ r = μ1 r
      rw [zrw_n _ _ h92, zrw_n _ _ h145, zrw_n _ _ h144, zrw_n _ _ h143, zup_ne _ _ _ h138, GY_row gl μ1 l 0 r h139 h140 h141 h142]
    have s6 : ∀ j, j ≠ 6 → μ2 6 j = c j := fun j hj => by
      rw [row2 6 (by decide) (by decide) (by decide) (by decide) (by decide) (by decide) (by decide) (by decide) (by decide), hμ1, hM]
      exact upd_ne _ _ hj
    refine ⟨zi (gl.length : Int), μ1, μ2, ?_, ?_, ⟨?_, ?_, ?_⟩, ?_, ?_⟩
    · have E1 : zE zc_X7_read (zF zT0 (d + 38)) 12 [.ref 57, .int (zi 0)] [] (zm len (ST X c q 0 0 (μ 62)) ν) = zE zc_X7_read (zF zT0 (d + 38)) 43 [.ref 57, .int x] [] (zm len M ν) := E1
      rw [CL, E1, E2, ← hμ1]
      simp (disch := omega) only [B_X11_rules_14, B_X7_lines, m57, B_X11_rules_24, zbi_some, zbl_some, zbv_some, zbi_none, zbl_none, zbv_none, zbi_ite, zbl_ite, zbv_ite, zbZ, zbO, zc_lt, zc_le, zc_ge, zc_gt, zc_eq, zk0, zk1, zk2, zk3, zk4, zk5, zk6, zk7, zk8, zk9, zk10, zk11, zk12, zk14, zk15, zk16, zk17, zk19, zk20, zk21, zk24, zk25, zk30, zk32, zk36, zk40, zk45, zk50, zk64, zk97, zk99, zk100, zk102, zk122, zk128, zk255, zk800, zk801, zk900, zk999, zk1000, zk1997, zk9999, zk10000, zk100000, zk99999, zk9999999, zk999999999, zk2147483647, zlc0, zlc1, zlc2, zlc3, zlc4, zlc23, zlc99, zlc100, zlc9999999, zlc999999999999, zlc1073741824, zi_neg, zi_add, zi_sub, zi_mul, zl_neg, zl_add, zl_sub, zl_mul, zi_toInt, zi_nat, zi_le, zi_lt, zi_eq, zl_le, zl_lt, zl_eq, zl_toInt, zl_of32, zi_of64, zi_div, zl_div, zmodI, ↓reduceIte, zTle, zFle, zTlt, zFlt, zTeq, zFeq, if_true, if_false, and_self, and_true, true_and, and_false, false_and, or_self, or_true, true_or, or_false, false_or, not_true_eq_false, not_false_eq_true, zcastA, zcastL, znatC, zab, Int.reduceAdd, Int.reduceSub, Int.reduceMul, Int.reduceNeg, Int.reduceToNat, Nat.reduceAdd]
    · have F2 : zE zc_X12_readRules (zF zT0 (d + 38)) 21 [.ref 92, .int (zi 0)] [] (zm len (Mm μ1 r (μ1 143) (μ1 144) (μ1 145)) ν) = some (.int (zi (gl.length : Int)), zm len (Mm (GY gl μ1 l 0) r3 (wrL (μ1 143) B ((gco gl).map opo)) (wrL (μ1 144) B ((gco gl).map opa)) e3) ν) := F2
      rw [F1, F2, hμ2]
      have nm : ¬ (gl.length : Int) = -1 := by omega
      simp (disch := omega) only [B_X12_rules_19, nm, zrw_s, f67, upd_ne, zup_zrw, zup_zrw_n, zbi_some, zbl_some, zbv_some, zbi_none, zbl_none, zbv_none, zbi_ite, zbl_ite, zbv_ite, zbZ, zbO, zc_lt, zc_le, zc_ge, zc_gt, zc_eq, zk0, zk1, zk2, zk3, zk4, zk5, zk6, zk7, zk8, zk9, zk10, zk11, zk12, zk14, zk15, zk16, zk17, zk19, zk20, zk21, zk24, zk25, zk30, zk32, zk36, zk40, zk45, zk50, zk64, zk97, zk99, zk100, zk102, zk122, zk128, zk255, zk800, zk801, zk900, zk999, zk1000, zk1997, zk9999, zk10000, zk100000, zk99999, zk9999999, zk999999999, zk2147483647, zlc0, zlc1, zlc2, zlc3, zlc4, zlc23, zlc99, zlc100, zlc9999999, zlc999999999999, zlc1073741824, zi_neg, zi_add, zi_sub, zi_mul, zl_neg, zl_add, zl_sub, zl_mul, zi_toInt, zi_nat, zi_le, zi_lt, zi_eq, zl_le, zl_lt, zl_eq, zl_toInt, zl_of32, zi_of64, zi_div, zl_div, zmodI, ↓reduceIte, zTle, zFle, zTlt, zFlt, zTeq, zFeq, if_true, if_false, and_self, and_true, true_and, and_false, false_and, or_self, or_true, true_or, or_false, false_or, not_true_eq_false, not_false_eq_true, zcastA, zcastL, znatC, zab, Int.reduceAdd, Int.reduceSub, Int.reduceMul, Int.reduceNeg, Int.reduceToNat, Nat.reduceAdd]
    · refine ⟨?_, ?_, ?_, ?_, ?_⟩
      · rw [s6 1 (by decide), c1, hμ2]
        rfl
      · rw [s6 1 (by decide), c1]
        decide
      · rw [s6 1 (by decide), c1]
        decide
      · rw [row2 7 (by decide) (by decide) (by decide) (by decide) (by decide) (by decide) (by decide) (by decide) (by decide), row2 96 (by decide) (by decide) (by decide) (by decide) (by decide) (by decide) (by decide) (by decide) (by decide), row1 7 (by unfold rdR; decide), row1 96 (by unfold rdR; decide)]
        exact t5
      · rw [row2 7 (by decide) (by decide) (by decide) (by decide) (by decide) (by decide) (by decide) (by decide) (by decide), row1 7 (by unfold rdR; decide)]
        exact t6
    · have N := Rrul_new gl hV g1 (by omega) X μ1 (μ 62) (μ1 143) (μ1 144) (M 58) (M 59) (M 60) (M 61) (μ2 138) B l (1 - hd) (by omega) hB hl (by rw [hμ2]; exact upd_eq _ _ _)
      have e57' : μ2 57 1 = zi (gl.length : Int) := by rw [row2 57 (by decide) (by decide) (by decide) (by decide) (by decide) (by decide) (by decide) (by decide) (by decide)]; exact m57
      have e67' : μ2 92 67 = zi (1 - hd) := by rw [hμ2]; rfl
      have r58 : μ2 58 = va_cpy (wrL (μ 62) 0 ((gco gl).map opc)) (M 58) 0 0 (gco gl).length := by rw [row2 58 (by decide) (by decide) (by decide) (by decide) (by decide) (by decide) (by decide) (by decide) (by decide), hμ1, hM]; rfl
      have r59 : μ2 59 = va_cpy (GX gl X 0 0 63) (M 59) 0 0 gl.length := by rw [row2 59 (by decide) (by decide) (by decide) (by decide) (by decide) (by decide) (by decide) (by decide) (by decide), hμ1, hM]; rfl
      have r60 : μ2 60 = va_cpy (GX gl X 0 0 64) (M 60) 0 0 gl.length := by rw [row2 60 (by decide) (by decide) (by decide) (by decide) (by decide) (by decide) (by decide) (by decide) (by decide), hμ1, hM]; rfl
      have r61 : μ2 61 = va_cpy (GX gl X 0 0 65) (M 61) 0 0 gl.length := by rw [row2 61 (by decide) (by decide) (by decide) (by decide) (by decide) (by decide) (by decide) (by decide) (by decide), hμ1, hM]; rfl
      show Rrul (μ2 57 1) (μ2 92 67) (μ2 58) (μ2 59) (μ2 60) (μ2 61) (μ2 138) (μ2 139) (μ2 140) (μ2 141) (μ2 142) (μ2 143) (μ2 144)
      rw [e57', e67', r58, r59, r60, r61]
      have q139 : μ2 139 = GY gl μ1 l 0 139 := by rw [hμ2]; rfl
      have q140 : μ2 140 = GY gl μ1 l 0 140 := by rw [hμ2]; rfl
      have q141 : μ2 141 = GY gl μ1 l 0 141 := by rw [hμ2]; rfl
      have q142 : μ2 142 = GY gl μ1 l 0 142 := by rw [hμ2]; rfl
      have q143 : μ2 143 = wrL (μ1 143) B ((gco gl).map opo) := by rw [hμ2]; rfl
      have q144 : μ2 144 = wrL (μ1 144) B ((gco gl).map opa) := by rw [hμ2]; rfl
      rw [q139, q140, q141, q142, q143, q144]
      exact N
    · refine ⟨?_, ?_⟩
      · rw [s6 7 (by decide), c7, hμ2]
        show _ = (upd (upd r3 6 (zi 0)) 67 (zi (1 - hd))) 14
        rw [upd_ne _ _ (by decide), upd_ne _ _ (by decide), F3 14 (by decide) (by decide) (by decide) (by decide) (by decide) (by decide) (by decide), b6]
      · rw [s6 8 (by decide), c8, hμ2]
        show _ = (upd (upd r3 6 (zi 0)) 67 (zi (1 - hd))) 15
        rw [upd_ne _ _ (by decide), upd_ne _ _ (by decide), F3 15 (by decide) (by decide) (by decide) (by decide) (by decide) (by decide) (by decide), b7]
    · intro x hx h92
      simp only [List.mem_cons, List.not_mem_nil, or_false, not_or] at hx
      obtain ⟨h6, h8, h9, h10, h57, h58, h59, h60, h61, h62, h63, h64, h65, h138, h139, h140, h141, h142, h143, h144, h145⟩ := hx
      rw [row2 x h92 h138 h139 h140 h141 h142 h143 h144 h145]
      exact row1 x ⟨⟨h6, h8, h9, h10⟩, ⟨h57, h58, h59, h60, h61⟩, h62, h63, h64, h65⟩
    · intro j hj
      simp only [List.mem_cons, List.not_mem_nil, or_false, not_or] at hj
      obtain ⟨j0, j6, j7, j8, j9, j10, j12, j13, j14, j15, j67, j75, j76, j78⟩ := hj
      rw [hμ2]
      show (upd (upd r3 6 (zi 0)) 67 (zi (1 - hd))) j = μ 92 j
      rw [upd_ne _ _ j67, upd_ne _ _ j6, F3 j j7 j8 j9 j10 j75 j76 j78, b8 j j0 j7 j8 j9 j10 j14 j15 j75 j76, row1 92 (by unfold rdR; decide)]
  · obtain ⟨X', c', q', f', E1, d1, d2, d3, d4, d5⟩ := hRC (d + 38) len X ν c q (μ 62) 0 (by omega) hCX c5 (Nat.le_refl _) (by rw [hq]; rfl)
    obtain ⟨μ1, hμ1⟩ : ∃ μ1, μ1 = CM X' c' q' f' := ⟨_, rfl⟩
    have row1 : ∀ r, (r ≠ 6 ∧ r ≠ 8 ∧ r ≠ 9 ∧ r ≠ 10) → r ≠ 57 → (r ≠ 62 ∧ r ≠ 63 ∧ r ≠ 64 ∧ r ≠ 65) → μ1 r = μ r := fun r ⟨h6, h8, h9, h10⟩ h57 ⟨h62, h63, h64, h65⟩ => by
      rw [hμ1]
      show zrw (zrw (zrw X' 6 c') 57 q') 62 f' r = μ r
      rw [zrw_n _ _ h62, zrw_n _ _ h57, zrw_n _ _ h6, d5 r h63 h64 h65, rowX r h8 h9 h10]
    have hY : CcY g μ1 := ⟨fun i => by rw [row1 96 (by decide) (by decide) (by decide)]; exact t4 i, fun i hi => by rw [row1 97 (by decide) (by decide) (by decide)]; exact hw i hi⟩
    obtain ⟨r, F1, b1, b2, b3, b4, b5, b6, b7, b8⟩ := rules_m d len μ1 ν g L K pl nn ty va S hL hg hY (by rw [row1 92 (by decide) (by decide) (by decide)]; exact t2)
    obtain ⟨Y', r3, a3, b3', e3, F2, F3, F4, F5, F6⟩ := hRM (d + 29) len μ1 ν r (μ1 143) (μ1 144) (μ1 145) 0 B l hd hhd hB hl hY b2 (by rw [b3, row1 92 (by decide) (by decide) (by decide)]; exact e67) b4 b1 b5 (Nat.le_refl _)
    obtain ⟨μ2, hμ2⟩ : ∃ μ2, μ2 = Mm Y' (upd (upd (upd r3 6 (zi 0)) 14 (zi ft)) 15 (zi (pl kf : Int))) a3 b3' e3 := ⟨_, rfl⟩
    have row2 : ∀ r, r ≠ 92 → r ≠ 139 → r ≠ 140 → r ≠ 141 → r ≠ 142 → r ≠ 143 → r ≠ 144 → r ≠ 145 → μ2 r = μ1 r := fun r h92 h139 h140 h141 h142 h143 h144 h145 => by
      rw [hμ2]
      show zrw (zrw (zrw (zrw Y' 143 _) 144 _) 145 _) 92 _ r = μ1 r
      rw [zrw_n _ _ h92, zrw_n _ _ h145, zrw_n _ _ h144, zrw_n _ _ h143, F6.1 r h139 h140 h141 h142]
    have s6 : ∀ j, μ2 6 j = c' j := fun j => by
      rw [row2 6 (by decide) (by decide) (by decide) (by decide) (by decide) (by decide) (by decide) (by decide), hμ1]
      rfl
    refine ⟨zi (-1), μ1, μ2, ?_, ?_, ⟨?_, ?_, ?_⟩, ?_, ?_⟩
    · have E1 : zE zc_X7_read (zF zT0 (d + 38)) 12 [.ref 57, .int (zi 0)] [] (zm len (ST X c q 0 0 (μ 62)) ν) = some (.int (zi 0), zm len μ1 ν) := by rw [hμ1]; exact E1
      rw [CL, E1]
      simp (disch := omega) only [B_X11_rules_14, zbi_some, zbl_some, zbv_some, zbi_none, zbl_none, zbv_none, zbi_ite, zbl_ite, zbv_ite, zbZ, zbO, zc_lt, zc_le, zc_ge, zc_gt, zc_eq, zk0, zk1, zk2, zk3, zk4, zk5, zk6, zk7, zk8, zk9, zk10, zk11, zk12, zk14, zk15, zk16, zk17, zk19, zk20, zk21, zk24, zk25, zk30, zk32, zk36, zk40, zk45, zk50, zk64, zk97, zk99, zk100, zk102, zk122, zk128, zk255, zk800, zk801, zk900, zk999, zk1000, zk1997, zk9999, zk10000, zk100000, zk99999, zk9999999, zk999999999, zk2147483647, zlc0, zlc1, zlc2, zlc3, zlc4, zlc23, zlc99, zlc100, zlc9999999, zlc999999999999, zlc1073741824, zi_neg, zi_add, zi_sub, zi_mul, zl_neg, zl_add, zl_sub, zl_mul, zi_toInt, zi_nat, zi_le, zi_lt, zi_eq, zl_le, zl_lt, zl_eq, zl_toInt, zl_of32, zi_of64, zi_div, zl_div, zmodI, ↓reduceIte, zTle, zFle, zTlt, zFlt, zTeq, zFeq, if_true, if_false, and_self, and_true, true_and, and_false, false_and, or_self, or_true, true_or, or_false, false_or, not_true_eq_false, not_false_eq_true, zcastA, zcastL, znatC, zab, Int.reduceAdd, Int.reduceSub, Int.reduceMul, Int.reduceNeg, Int.reduceToNat, Nat.reduceAdd]
    · have F2 : zE zc_X12_readRules (zF zT0 (d + 38)) 21 [.ref 92, .int (zi 0)] [] (zm len (Mm μ1 r (μ1 143) (μ1 144) (μ1 145)) ν) = some (.int (zi (-1)), zm len (Mm Y' r3 a3 b3' e3) ν) := F2
      rw [F1, F2, hμ2]
      simp (disch := omega) only [B_X12_rules_19, zrw_s, F3, F4, upd_ne, zup_zrw, zbi_some, zbl_some, zbv_some, zbi_none, zbl_none, zbv_none, zbi_ite, zbl_ite, zbv_ite, zbZ, zbO, zc_lt, zc_le, zc_ge, zc_gt, zc_eq, zk0, zk1, zk2, zk3, zk4, zk5, zk6, zk7, zk8, zk9, zk10, zk11, zk12, zk14, zk15, zk16, zk17, zk19, zk20, zk21, zk24, zk25, zk30, zk32, zk36, zk40, zk45, zk50, zk64, zk97, zk99, zk100, zk102, zk122, zk128, zk255, zk800, zk801, zk900, zk999, zk1000, zk1997, zk9999, zk10000, zk100000, zk99999, zk9999999, zk999999999, zk2147483647, zlc0, zlc1, zlc2, zlc3, zlc4, zlc23, zlc99, zlc100, zlc9999999, zlc999999999999, zlc1073741824, zi_neg, zi_add, zi_sub, zi_mul, zl_neg, zl_add, zl_sub, zl_mul, zi_toInt, zi_nat, zi_le, zi_lt, zi_eq, zl_le, zl_lt, zl_eq, zl_toInt, zl_of32, zi_of64, zi_div, zl_div, zmodI, ↓reduceIte, zTle, zFle, zTlt, zFlt, zTeq, zFeq, if_true, if_false, and_self, and_true, true_and, and_false, false_and, or_self, or_true, true_or, or_false, false_or, not_true_eq_false, not_false_eq_true, zcastA, zcastL, znatC, zab, Int.reduceAdd, Int.reduceSub, Int.reduceMul, Int.reduceNeg, Int.reduceToNat, Nat.reduceAdd]
    · refine ⟨?_, ?_, ?_, ?_, ?_⟩
      · rw [s6 1, d3 1 (by decide) (by decide) (by decide), c1, hμ2]
        rfl
      · rw [s6 1, d3 1 (by decide) (by decide) (by decide), c1]
        decide
      · rw [s6 1, d3 1 (by decide) (by decide) (by decide), c1]
        decide
      · rw [row2 7 (by decide) (by decide) (by decide) (by decide) (by decide) (by decide) (by decide) (by decide), row2 96 (by decide) (by decide) (by decide) (by decide) (by decide) (by decide) (by decide) (by decide), row1 7 (by decide) (by decide) (by decide), row1 96 (by decide) (by decide) (by decide)]
        exact t5
      · rw [row2 7 (by decide) (by decide) (by decide) (by decide) (by decide) (by decide) (by decide) (by decide), row1 7 (by decide) (by decide) (by decide)]
        exact t6
    · have e57' : μ2 57 1 = zi (n0 : Int) := by
        rw [row2 57 (by decide) (by decide) (by decide) (by decide) (by decide) (by decide) (by decide) (by decide), hμ1]
        show q' 1 = _
        rw [d4 1 (by decide) (by decide), hq]
        exact e57
      have e67' : μ2 92 67 = zi hd := by
        rw [hμ2]
        show r3 67 = _
        rw [F5.1 67 (by decide) (by decide) (by decide) (by decide) (by decide) (by decide) (by decide) (by decide) (by decide), b3, row1 92 (by decide) (by decide) (by decide)]
        exact e67
      have q138 : μ2 138 = μ 138 := by rw [row2 138 (by decide) (by decide) (by decide) (by decide) (by decide) (by decide) (by decide) (by decide), row1 138 (by decide) (by decide) (by decide)]
      have q58 : μ2 58 = μ 58 := by rw [row2 58 (by decide) (by decide) (by decide) (by decide) (by decide) (by decide) (by decide) (by decide), row1 58 (by decide) (by decide) (by decide)]
      have q59 : μ2 59 = μ 59 := by rw [row2 59 (by decide) (by decide) (by decide) (by decide) (by decide) (by decide) (by decide) (by decide), row1 59 (by decide) (by decide) (by decide)]
      have q60 : μ2 60 = μ 60 := by rw [row2 60 (by decide) (by decide) (by decide) (by decide) (by decide) (by decide) (by decide) (by decide), row1 60 (by decide) (by decide) (by decide)]
      have q61 : μ2 61 = μ 61 := by rw [row2 61 (by decide) (by decide) (by decide) (by decide) (by decide) (by decide) (by decide) (by decide), row1 61 (by decide) (by decide) (by decide)]
      show Rrul (μ2 57 1) (μ2 92 67) (μ2 58) (μ2 59) (μ2 60) (μ2 61) (μ2 138) (μ2 139) (μ2 140) (μ2 141) (μ2 142) (μ2 143) (μ2 144)
      rw [e57', e67', q138, q58, q59, q60, q61]
      have keep : ∀ i, (i = 139 ∨ i = 140 ∨ i = 141 ∨ i = 142) → ∀ j : Nat, j < 16 → μ2 i (16 * hd + (j : Int)).toNat = μ i (16 * hd + (j : Int)).toNat := fun i hi j hj => by
        have y1 : μ2 i = Y' i := by
          rw [hμ2]
          show zrw (zrw (zrw (zrw Y' 143 _) 144 _) 145 _) 92 _ i = Y' i
          rw [zrw_n _ _ (by omega), zrw_n _ _ (by omega), zrw_n _ _ (by omega), zrw_n _ _ (by omega)]
        rw [y1, F6.2 i _ (by omega), row1 i ⟨by omega, by omega, by omega, by omega⟩ (by omega) ⟨by omega, by omega, by omega, by omega⟩]
      refine ⟨hd, n0, op0, ar0, hhd, hn0, rfl, rfl, e138, fun j hj => ?_⟩
      obtain ⟨fr, s, to, R⟩ := hG j hj
      refine ⟨fr, s, to, Rgiv_keep R (keep 139 (by omega) j (by omega)) (keep 140 (by omega) j (by omega)) (keep 141 (by omega) j (by omega)) (keep 142 (by omega) j (by omega)) (fun k hk => ?_) (fun k hk => ?_)⟩
      · rw [hμ2]
        show a3 _ = _
        rw [F5.2.1 _ (by omega), row1 143 (by decide) (by decide) (by decide)]
      · rw [hμ2]
        show b3' _ = _
        rw [F5.2.2 _ (by omega), row1 144 (by decide) (by decide) (by decide)]
    · refine ⟨?_, ?_⟩
      · rw [s6 7, d1, hμ2]
        rfl
      · rw [s6 8, d2, hμ2]
        rfl
    · intro x hx h92
      simp only [List.mem_cons, List.not_mem_nil, or_false, not_or] at hx
      obtain ⟨h6, h8, h9, h10, h57, h58, h59, h60, h61, h62, h63, h64, h65, h138, h139, h140, h141, h142, h143, h144, h145⟩ := hx
      rw [row2 x h92 h139 h140 h141 h142 h143 h144 h145]
      exact row1 x ⟨h6, h8, h9, h10⟩ h57 ⟨h62, h63, h64, h65⟩
    · intro j hj
      simp only [List.mem_cons, List.not_mem_nil, or_false, not_or] at hj
      obtain ⟨j0, j6, j7, j8, j9, j10, j12, j13, j14, j15, j67, j75, j76, j78⟩ := hj
      rw [hμ2]
      show (upd (upd (upd r3 6 (zi 0)) 14 (zi ft)) 15 (zi (pl kf : Int))) j = μ 92 j
      rw [upd_ne _ _ j15, upd_ne _ _ j14, upd_ne _ _ j6, F5.1 j j7 j8 j9 j10 j12 j13 j75 j76 j78, b8 j j0 j7 j8 j9 j10 j14 j15 j75 j76, row1 92 (by decide) (by decide) (by decide)]

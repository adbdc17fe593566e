/-! RULES: rules() agrees -/
theorem Rrul_new (gl : List Gv) (hV : GV gl) (hn : gl.length ≤ 16) (hsz : (gco gl).length ≤ 800) (X Y : zMu) (f a b g58 g59 g60 g61 r138 : Nat → Int32) (B l : Nat) (hd : Int) (hhd : 0 ≤ hd ∧ hd ≤ 1) (hB : (B : Int) = 800 * hd) (hl : (l : Int) = 16 * hd) (h138 : r138 hd.toNat = zi (gl.length : Int)) : Rrul (zi (gl.length : Int)) (zi hd) (va_cpy (wrL f 0 ((gco gl).map opc)) g58 0 0 (gco gl).length) (va_cpy (GX gl X 0 0 63) g59 0 0 gl.length) (va_cpy (GX gl X 0 0 64) g60 0 0 gl.length) (va_cpy (GX gl X 0 0 65) g61 0 0 gl.length) r138 (GY gl Y l 0 139) (GY gl Y l 0 140) (GY gl Y l 0 141) (GY gl Y l 0 142) (wrL a B ((gco gl).map opo)) (wrL b B ((gco gl).map opa)) := by
  refine ⟨hd, gl.length, fun i => ((gco gl).getD i (0, 0)).1, fun i => ((gco gl).getD i (0, 0)).2, hhd, hn, rfl, rfl, h138, fun j hj => ?_⟩
  obtain ⟨x, fr, pre, post, e1, e2, ⟨x1, x2, x3⟩, ⟨e4, e5, e6⟩, e7, e8, e9, e10, e11, e12⟩ := G_rows gl X Y 0 0 l hV j hj
  obtain ⟨G, c1, c2⟩ := x
  rw [Nat.zero_add] at e2 e4 e5 e6 e8
  have e2' : pre.length = fr := e2.symm
  have ln : (gco gl).length = fr + (c1.length + c2.length + post.length) := by
    rw [e1, List.length_append, List.length_append, List.length_append, e2']
  have opq : ∀ (k : Nat) (p : Int × Int), (gco gl)[k]? = some p → ((gco gl).getD k (0, 0)) = p := fun k p h => by
    unfold List.getD
    rw [h]
    rfl
  have key : ∀ i, i < (c1 ++ c2).length → (gco gl)[fr + i]? = (c1 ++ c2)[i]? := fun i hi => by
    rw [e1, List.getElem?_append_right (by omega), show fr + i - pre.length = i by omega, List.getElem?_append_left hi]
  have cell : ∀ k, fr ≤ k → k < fr + c1.length + c2.length → ∃ p, (gco gl)[k]? = some p := fun k h1 h2 => by
    have : k < (gco gl).length := by omega
    exact ⟨_, List.getElem?_eq_getElem this⟩
  have ix : (16 * hd + (j : Int)).toNat = l + j := by omega
  refine ⟨fr, fr + c1.length, fr + c1.length + c2.length, ⟨by omega, by omega, by omega⟩, ⟨G, x1, by rw [cpy_at _ _ hj]; exact e4, by rw [ix]; exact e9⟩, by rw [cpy_at _ _ hj]; exact e5, by rw [cpy_at _ _ hj]; exact e6, e7, fun w => by rw [cpy_at _ _ (by omega)]; exact e8 w, by rw [ix]; exact e10, by rw [ix]; exact e11, by rw [ix]; exact e12, ?_, fun w => ?_, fun k k1 k2 => ?_⟩
  · obtain ⟨T', R, _⟩ := x2 0 (fun _ => 0) (by decide)
    obtain ⟨H, TT, a1, a2, a3, a4, a5⟩ := RunL_Wf (fun i => ((gco gl).getD i (0, 0)).1) (fun i => ((gco gl).getD i (0, 0)).2) c1 fr 0 (0 + 1) (fun _ => 0) T' R (fun i hi => by
      obtain ⟨p, hp⟩ := cell (fr + i) (by omega) (by omega)
      have k1 := key i (by rw [List.length_append]; omega)
      rw [List.getElem?_append_left hi] at k1
      show c1[i]? = some (((gco gl).getD (fr + i) (0, 0)).1, ((gco gl).getD (fr + i) (0, 0)).2)
      rw [opq _ _ hp, ← k1, hp])
    exact ⟨H, TT, a1, a3, fun q => absurd q (by decide), a5⟩
  · have hc : CTo 0 c2 := by
      rcases x3 with q | q
      · have q : c2 = [] := q
        rw [q] at w
        simp only [List.length_nil] at w
        omega
      · exact q
    obtain ⟨T', R, _, t2⟩ := hc 0 (fun _ => 0) (by decide)
    obtain ⟨H, TT, a1, a2, a3, a4, a5⟩ := RunL_Wf (fun i => ((gco gl).getD i (0, 0)).1) (fun i => ((gco gl).getD i (0, 0)).2) c2 (fr + c1.length) 0 (0 + 1) (fun _ => 0) T' R (fun i hi => by
      obtain ⟨p, hp⟩ := cell (fr + c1.length + i) (by omega) (by omega)
      have k1 := key (c1.length + i) (by rw [List.length_append]; omega)
      rw [List.getElem?_append_right (by omega), show c1.length + i - c1.length = i by omega, show fr + (c1.length + i) = fr + c1.length + i by omega] at k1
      show c2[i]? = some (((gco gl).getD (fr + c1.length + i) (0, 0)).1, ((gco gl).getD (fr + c1.length + i) (0, 0)).2)
      rw [opq _ _ hp, ← k1, hp])
    exact ⟨H, TT, a1, a3, fun _ => by rw [a4]; exact t2, a5⟩
  · obtain ⟨p, hp⟩ := cell k k1 k2
    have hk : k < (gco gl).length := by omega
    have i8 : (800 * hd + (k : Int)).toNat = B + k := by omega
    show va_cpy (wrL f 0 ((gco gl).map opc)) g58 0 0 (gco gl).length k = zi (opC ((gco gl).getD k (0, 0)).1 ((gco gl).getD k (0, 0)).2) ∧ wrL a B ((gco gl).map opo) (800 * hd + (k : Int)).toNat = zi ((gco gl).getD k (0, 0)).1 ∧ wrL b B ((gco gl).map opa) (800 * hd + (k : Int)).toNat = zi ((gco gl).getD k (0, 0)).2
    rw [cpy_at _ _ hk, i8, opq _ _ hp]
    have m1 : ∀ φ : Int × Int → Int32, ((gco gl).map φ)[k]? = some (φ p) := fun φ => by rw [List.getElem?_map, hp]; rfl
    refine ⟨?_, wrL_at _ a B k _ (m1 opo), wrL_at _ b B k _ (m1 opa)⟩
    have := wrL_at _ f 0 k _ (m1 opc)
    rw [Nat.zero_add] at this
    exact this
def RwrdM (μ : zMu) : Prop := ∀ i : Nat, i < 80 → μ 97 i = zi (mch i)
theorem txt_n {μ : zMu} (h : RtxtM μ) : ∃ (L : Nat) (g : Nat → Int), L ≤ 800 ∧ μ 6 1 = zi (L : Int) ∧ μ 92 6 = zi (L : Int) ∧ (∀ i, 0 ≤ g i ∧ g i ≤ 255) ∧ (∀ i, μ 7 i = zi (g i)) ∧ ∀ i, μ 96 i = zi (g i) := by
  obtain ⟨h1, h2, h3, h4, h5⟩ := h
  have en : (((μ 6 1).toInt.toNat : Nat) : Int) = (μ 6 1).toInt := by omega
  refine ⟨(μ 6 1).toInt.toNat, fun i => (μ 7 i).toInt, by omega, by rw [en]; exact (zi_of _).symm, by rw [en, ← h1]; exact (zi_of _).symm, h5, fun i => (zi_of _).symm, fun i => by rw [← h4]; exact (zi_of _).symm⟩
/-- the model begins its reading -/
theorem rules_m (d len : Nat) (Y : zMu) (ν : zNu) (g : Nat → Int) (L K : Nat) (pl nn : Nat → Nat) (ty va : Nat → Int) (S : Strm g L K pl nn ty va) (hL : L ≤ 800) (hg : ∀ i, 0 ≤ g i ∧ g i ≤ 255) (hY : CcY g Y) (e6 : Y 92 6 = zi (L : Int)) : ∃ r, zF zT0 (d + 40) 263 [.ref 92] (zm len Y ν) = zbi (zE zc_X12_readRules (zF zT0 (d + 38)) 21 [.ref 92, .int (zi 0)] [] (zm len (Mm Y r (Y 143) (Y 144) (Y 145)) ν)) (fun w' M' => zE zc_X12_rules (zF zT0 (d + 39)) 19 [.ref 92, zU] [.int w'] M') ∧ MS pl nn ty va r 0 ∧ r 6 = zi (L : Int) ∧ r 67 = Y 92 67 ∧ r 75 = zi 0 ∧ r 76 = zi 0 ∧ r 14 = zi 0 ∧ r 15 = zi (-1) ∧ ∀ i, i ≠ 0 → i ≠ 7 → i ≠ 8 → i ≠ 9 → i ≠ 10 → i ≠ 14 → i ≠ 15 → i ≠ 75 → i ≠ 76 → r i = Y 92 i := by
  obtain ⟨r0, hr0⟩ : ∃ r0, r0 = upd (upd (upd (upd (upd (upd (Y 92) 0 (zi 0)) 14 (zi 0)) 15 (zi (-1))) 7 (zi 0)) 75 (zi 0)) 76 (zi 0) := ⟨_, rfl⟩
  obtain ⟨r, N, R1, R2⟩ := F_tkn (d + 35) len Y ν g L K pl nn ty va hL hg hY.1 hY.2 S 0 (Nat.zero_le _) r0 (by rw [hr0]; exact e6) (by rw [hr0]; rfl)
  have f6 : r 6 = zi (L : Int) := by rw [R2 6 (by decide) (by decide) (by decide) (by decide), hr0]; exact e6
  refine ⟨r, ?_, R1, f6, by rw [R2 67 (by decide) (by decide) (by decide) (by decide), hr0]; rfl, by rw [R2 75 (by decide) (by decide) (by decide) (by decide), hr0]; rfl, by rw [R2 76 (by decide) (by decide) (by decide) (by decide), hr0]; rfl, by rw [R2 14 (by decide) (by decide) (by decide) (by decide), hr0]; rfl, by rw [R2 15 (by decide) (by decide) (by decide) (by decide), hr0]; rfl, fun i i0 i7 i8 i9 i10 i14 i15 i75 i76 => by rw [R2 i i7 i8 i9 i10, hr0, upd_ne _ _ i76, upd_ne _ _ i75, upd_ne _ _ i7, upd_ne _ _ i15, upd_ne _ _ i14, upd_ne _ _ i0]⟩
  rw [B_X12_rules, Mm_id]
  have zm1 : (-1 : Int32) = zi (-1) := rfl
  simp (disch := omega) only [B_X12_readRules, zm1, zup_rw, zrw_zrw, zrw_s, zbi_some, zbl_some, zbv_some, zbi_none, zbl_none, zbv_none, zbi_ite, zbl_ite, zbv_ite, zbZ, zbO, zc_lt, zc_le, zc_ge, zc_gt, zc_eq, zk0, zk1, zk2, zk3, zk4, zk5, zk6, zk7, zk8, zk9, zk10, zk11, zk12, zk14, zk15, zk16, zk17, zk19, zk20, zk21, zk24, zk25, zk30, zk32, zk36, zk40, zk45, zk50, zk64, zk97, zk99, zk100, zk102, zk122, zk128, zk255, zk800, zk801, zk900, zk999, zk1000, zk1997, zk9999, zk10000, zk100000, zk99999, zk9999999, zk999999999, zk2147483647, zlc0, zlc1, zlc2, zlc3, zlc4, zlc23, zlc99, zlc100, zlc9999999, zlc999999999999, zlc1073741824, zi_neg, zi_add, zi_sub, zi_mul, zl_neg, zl_add, zl_sub, zl_mul, zi_toInt, zi_nat, zi_le, zi_lt, zi_eq, zl_le, zl_lt, zl_eq, zl_toInt, zl_of32, zi_of64, zi_div, zl_div, zmodI, ↓reduceIte, zTle, zFle, zTlt, zFlt, zTeq, zFeq, if_true, if_false, and_self, and_true, true_and, and_false, false_and, or_self, or_true, true_or, or_false, false_or, not_true_eq_false, not_false_eq_true, zcastA, zcastL, znatC, zab, Int.reduceAdd, Int.reduceSub, Int.reduceMul, Int.reduceNeg, Int.reduceToNat, Nat.reduceAdd]
  rw [← hr0, N]
  simp (disch := omega) only [zbi_some, zbl_some, zbv_some, zbi_none, zbl_none, zbv_none, zbi_ite, zbl_ite, zbv_ite, zbZ, zbO, zc_lt, zc_le, zc_ge, zc_gt, zc_eq, zk0, zk1, zk2, zk3, zk4, zk5, zk6, zk7, zk8, zk9, zk10, zk11, zk12, zk14, zk15, zk16, zk17, zk19, zk20, zk21, zk24, zk25, zk30, zk32, zk36, zk40, zk45, zk50, zk64, zk97, zk99, zk100, zk102, zk122, zk128, zk255, zk800, zk801, zk900, zk999, zk1000, zk1997, zk9999, zk10000, zk100000, zk99999, zk9999999, zk999999999, zk2147483647, zlc0, zlc1, zlc2, zlc3, zlc4, zlc23, zlc99, zlc100, zlc9999999, zlc999999999999, zlc1073741824, zi_neg, zi_add, zi_sub, zi_mul, zl_neg, zl_add, zl_sub, zl_mul, zi_toInt, zi_nat, zi_le, zi_lt, zi_eq, zl_le, zl_lt, zl_eq, zl_toInt, zl_of32, zi_of64, zi_div, zl_div, zmodI, ↓reduceIte, zTle, zFle, zTlt, zFlt, zTeq, zFeq, if_true, if_false, and_self, and_true, true_and, and_false, false_and, or_self, or_true, true_or, or_false, false_or, not_true_eq_false, not_false_eq_true, zcastA, zcastL, znatC, zab, Int.reduceAdd, Int.reduceSub, Int.reduceMul, Int.reduceNeg, Int.reduceToNat, Nat.reduceAdd]

/-! RULES read: B whole, both sides -/
def WMo (g : Nat → Int) (L : Nat) (pl nn : Nat → Nat) (ty va : Nat → Int) (o k k' : Nat) (cs : List (Int × Int)) : Prop := ∀ (d len : Nat) (Y : zMu) (ν : zNu) (r a b e : Nat → Int32) (m B : Nat) (hd : Int) (br s : Nat) (v : Value), (0 ≤ hd ∧ hd ≤ 1) → (B : Int) = 800 * (1 - hd) → CcY g Y → r 6 = zi (L : Int) → r 67 = zi hd → r 75 = zi (m : Int) → MS pl nn ty va r k → r 76 = zi (o : Int) → r 78 = zi (s : Int) → (m + s ≤ k ∧ s ≤ 3 * o ∧ br ≤ o) → (s = 0 ∨ e (s - 1) = zi 12) → ∃ (r' e' : Nat → Int32) (v' : Value), zE zc_X12_readAny (zF zT0 (d + 7)) 9 [.ref 92, .int (zi (br : Int)), .int (zi 1), v] [] (zm len (Mm Y r a b e) ν) = zE zc_X12_readAny (zF zT0 (d + 7)) 187 [.ref 92, .int (zi (br : Int)), .int (zi 0), v'] [] (zm len (Mm Y r' (wrL a (B + m) (cs.map opo)) (wrL b (B + m) (cs.map opa)) e') ν) ∧ MS pl nn ty va r' k' ∧ r' 75 = zi ((m + cs.length : Nat) : Int) ∧ r' 76 = zi (o : Int) ∧ r' 78 = zi (s : Int) ∧ (∀ i, i < s → e' i = e i) ∧ frR r r'
def WMF (g : Nat → Int) (L : Nat) (pl nn : Nat → Nat) (ty va : Nat → Int) (o k kf : Nat) (ft : Int) : Prop := ∀ (d len : Nat) (Y : zMu) (ν : zNu) (r a b e : Nat → Int32) (m B : Nat) (hd : Int) (br s : Nat) (v : Value), (0 ≤ hd ∧ hd ≤ 1) → (B : Int) = 800 * (1 - hd) → CcY g Y → r 6 = zi (L : Int) → r 67 = zi hd → r 75 = zi (m : Int) → MS pl nn ty va r k → r 76 = zi (o : Int) → r 78 = zi (s : Int) → (m + s ≤ k ∧ s ≤ 3 * o ∧ br ≤ o) → (s = 0 ∨ e (s - 1) = zi 12) → ∃ r' a' b' e', zE zc_X12_readAny (zF zT0 (d + 7)) 9 [.ref 92, .int (zi (br : Int)), .int (zi 1), v] [] (zm len (Mm Y r a b e) ν) = some (.int (zi (-1)), zm len (Mm Y r' a' b' e') ν) ∧ r' 12 = zi ft ∧ r' 13 = zi (pl kf : Int) ∧ frM B r r' a a' b b'
def WW (g : Nat → Int) (L K : Nat) (pl nn : Nat → Nat) (ty va : Nat → Int) (o k : Nat) : Prop := (∃ (k' : Nat) (cs : List (Int × Int)), (k < k' ∧ k' ≤ K ∧ k + cs.length ≤ k') ∧ CTo (2 * o) cs ∧ PC K pl ty va 88 [.ref 57, .int (zi (o : Int))] (2 * (8 - o) + 8) k k' cs ∧ WMo g L pl nn ty va o k k' cs) ∨ ∃ (ft : Int) (kf : Nat), PCF K pl ty va 88 [.ref 57, .int (zi (o : Int))] (2 * (8 - o) + 8) k kf ft ∧ WMF g L pl nn ty va o k kf ft
section CCS
variable {g : Nat → Int} {L K : Nat} {pl nn : Nat → Nat} {ty va : Nat → Int}
theorem ww_ok (S : Strm g L K pl nn ty va) (hL : L ≤ 800) (hg : ∀ i, 0 ≤ g i ∧ g i ≤ 255) (o k : Nat) (ho : o ≤ 8) (hk : k ≤ K) (HC : ∀ k2, k ≤ k2 → k2 ≤ K → CC g L K pl nn ty va o k2) : WW g L K pl nn ty va o k := by
  have hKL := S.2.1.2.2.2
  rcases HC k (Nat.le_refl _) hk with ⟨k1, cs, ⟨l1, l2, l3⟩, hT, hPC, hPM⟩ | ⟨ft, kf, hPC, hPM⟩
  · have M1 : ∀ (d len : Nat) (Y : zMu) (ν : zNu) (r a b e : Nat → Int32) (m B : Nat) (hd : Int) (br s : Nat) (v : Value), (0 ≤ hd ∧ hd ≤ 1) → (B : Int) = 800 * (1 - hd) → CcY g Y → r 6 = zi (L : Int) → r 67 = zi hd → r 75 = zi (m : Int) → MS pl nn ty va r k → r 76 = zi (o : Int) → r 78 = zi (s : Int) → (m + s ≤ k ∧ s ≤ 3 * o ∧ br ≤ o) → (s = 0 ∨ e (s - 1) = zi 12) → ∃ (r' e' : Nat → Int32) (v' : Value), zE zc_X12_readAny (zF zT0 (d + 7)) 9 [.ref 92, .int (zi (br : Int)), .int (zi 1), v] [] (zm len (Mm Y r a b e) ν) = zE zc_X12_readAny (zF zT0 (d + 7)) 9 [.ref 92, .int (zi (br : Int)), .int (zi 0), v'] [] (zm len (Mm Y r' (wrL a (B + m) (cs.map opo)) (wrL b (B + m) (cs.map opa)) e') ν) ∧ MS pl nn ty va r' k1 ∧ r' 75 = zi ((m + cs.length : Nat) : Int) ∧ r' 76 = zi (o : Int) ∧ r' 78 = zi (s : Int) ∧ (∀ i, i < s → e' i = e i) ∧ frR r r' := fun d len Y ν r a b e m B hd br s v hhd hB hY e6 e67 e75 hM e76 e78 ⟨hm, hs, hbr⟩ h0 => by
      obtain ⟨r1, e1, v1, E1, a1, a2, a3, a4, a5, a6⟩ := hPM d len Y ν r a b e m B hd br s 0 v hhd hB hY e6 e67 e75 hM e76 e78 ⟨hm, by omega, hbr, by omega, by omega⟩ (fun i hi => by omega) (by
        rcases h0 with q | q
        · exact Or.inl q.symm
        · right
          rw [show s - 1 - 0 = s - 1 by omega, q]
          decide)
      rw [show cs ++ List.replicate 0 ((9 : Int), (0 : Int)) = cs by simp] at E1
      exact ⟨r1, e1, v1, E1, a1, a2, a3, a4, a5, a6⟩
    rcases wl_ok S hL hg o k ho (fun k2 h1 h2 => HC k2 (by omega) h2) K k1 (by omega) (by omega) l2 0 (by omega) with ⟨k2, rest, ⟨j1, j2, j3⟩, hTr, hRC, hRM⟩ | ⟨ft, kf, hRC, hRM⟩
    · refine Or.inl ⟨k2, cs ++ rest, ⟨by omega, j2, by rw [List.length_append]; omega⟩, fun h T hh => ?_, fun D len X ν c q f m hD hX e5 hm => ?_, fun d len Y ν r a b e m B hd br s v hhd hB hY e6 e67 e75 hM e76 e78 hh h0 => ?_⟩
      · obtain ⟨T1, x1, y1, z1⟩ := hT h T (by omega)
        obtain ⟨T2, x2, y2, z2⟩ := hTr h T1 hh z1 (fun w => absurd w (by decide))
        exact ⟨T2, RunL_app _ _ x1 x2, fun i hi => by rw [y2 i hi, y1 i hi], z2⟩
      · obtain ⟨D, rfl⟩ : ∃ D', D = D' + 8 := ⟨D - 8, by omega⟩
        have U := hPC (D + 7) len X ν c q f m (by omega) hX e5 hm
        have R := hRC (D + 7) len X ν c q (wrL f m (cs.map opc)) (m + cs.length) 0 zU (by omega) hX e5 (by omega) (by omega)
        rw [B_X7_readWhen]
        simp (disch := omega) only [U, B_X7_readWhen_5, zbi_some, zbl_some, zbv_some, zbi_none, zbl_none, zbv_none, zbi_ite, zbl_ite, zbv_ite, zbZ, zbO, zc_lt, zc_le, zc_ge, zc_gt, zc_eq, zk0, zk1, zk2, zk3, zk4, zk5, zk6, zk7, zk8, zk9, zk10, zk11, zk12, zk14, zk15, zk16, zk17, zk19, zk20, zk21, zk24, zk25, zk30, zk32, zk36, zk40, zk45, zk50, zk64, zk97, zk99, zk100, zk102, zk122, zk128, zk255, zk800, zk801, zk900, zk999, zk1000, zk1997, zk9999, zk10000, zk100000, zk99999, zk9999999, zk999999999, zk2147483647, zlc0, zlc1, zlc2, zlc3, zlc4, zlc23, zlc99, zlc100, zlc9999999, zlc999999999999, zlc1073741824, zi_neg, zi_add, zi_sub, zi_mul, zl_neg, zl_add, zl_sub, zl_mul, zi_toInt, zi_nat, zi_le, zi_lt, zi_eq, zl_le, zl_lt, zl_eq, zl_toInt, zl_of32, zi_of64, zi_div, zl_div, zmodI, ↓reduceIte, zTle, zFle, zTlt, zFlt, zTeq, zFeq, if_true, if_false, and_self, and_true, true_and, and_false, false_and, or_self, or_true, true_or, or_false, false_or, not_true_eq_false, not_false_eq_true, zcastA, zcastL, znatC, zab, Int.reduceAdd, Int.reduceSub, Int.reduceMul, Int.reduceNeg, Int.reduceToNat, Nat.reduceAdd]
        refine Eq.trans ?_ (R.trans ?_)
        · rfl
        · rw [wrL_cat _ f m (m + cs.length) cs rest rfl, show m + cs.length + rest.length = m + (cs ++ rest).length by rw [List.length_append]; omega]
      · obtain ⟨r1, e1, v1, E1, a1, a2, a3, a4, a5, a6⟩ := M1 d len Y ν r a b e m B hd br s v hhd hB hY e6 e67 e75 hM e76 e78 hh h0
        obtain ⟨hm, hs, hbr⟩ := hh
        obtain ⟨r2, e2, v2, E2, b1, b2, b3, b4, b5, b6⟩ := hRM d len Y ν r1 (wrL a (B + m) (cs.map opo)) (wrL b (B + m) (cs.map opa)) e1 (m + cs.length) B hd br s 0 v1 hhd hB hY (by rw [a6 6 (by decide) (by decide) (by decide) (by decide) (by decide) (by decide) (by decide)]; exact e6) (by rw [a6 67 (by decide) (by decide) (by decide) (by decide) (by decide) (by decide) (by decide)]; exact e67) a2 a1 a3 a4 ⟨by omega, hs, hbr, by omega⟩ (by
          rcases h0 with q | q
          · exact Or.inl q
          · by_cases z : s = 0
            · exact Or.inl z
            · exact Or.inr (by rw [a5 _ (by omega)]; exact q)) (fun w => by omega) (fun w => by omega)
        refine ⟨r2, e2, v2, E1.trans (E2.trans ?_), b1, ?_, b3, b4, fun i hi => by rw [b5 i hi, a5 i hi], fun i i7 i8 i9 i10 i75 i76 i78 => by rw [b6 i i7 i8 i9 i10 i75 i76 i78, a6 i i7 i8 i9 i10 i75 i76 i78]⟩
        · rw [show List.replicate 0 ((10 : Int), (0 : Int)) ++ rest = rest by simp, wrL_cat _ a (B + m) (B + (m + cs.length)) cs rest (by omega), wrL_cat _ b (B + m) (B + (m + cs.length)) cs rest (by omega)]
        · rw [b2, show m + cs.length + 0 + rest.length = m + (cs ++ rest).length by rw [List.length_append]; omega]
    · refine Or.inr ⟨ft, kf, fun D len X ν c q f m hD hX e5 hm => ?_, fun d len Y ν r a b e m B hd br s v hhd hB hY e6 e67 e75 hM e76 e78 hh h0 => ?_⟩
      · obtain ⟨D, rfl⟩ : ∃ D', D = D' + 8 := ⟨D - 8, by omega⟩
        have U := hPC (D + 7) len X ν c q f m (by omega) hX e5 hm
        obtain ⟨c', q', f', R, R1⟩ := hRC (D + 7) len X ν c q (wrL f m (cs.map opc)) (m + cs.length) 0 zU (by omega) hX e5 (by omega) (by omega)
        refine ⟨c', q', f', ?_, R1⟩
        rw [B_X7_readWhen]
        simp (disch := omega) only [U, B_X7_readWhen_5, zbi_some, zbl_some, zbv_some, zbi_none, zbl_none, zbv_none, zbi_ite, zbl_ite, zbv_ite, zbZ, zbO, zc_lt, zc_le, zc_ge, zc_gt, zc_eq, zk0, zk1, zk2, zk3, zk4, zk5, zk6, zk7, zk8, zk9, zk10, zk11, zk12, zk14, zk15, zk16, zk17, zk19, zk20, zk21, zk24, zk25, zk30, zk32, zk36, zk40, zk45, zk50, zk64, zk97, zk99, zk100, zk102, zk122, zk128, zk255, zk800, zk801, zk900, zk999, zk1000, zk1997, zk9999, zk10000, zk100000, zk99999, zk9999999, zk999999999, zk2147483647, zlc0, zlc1, zlc2, zlc3, zlc4, zlc23, zlc99, zlc100, zlc9999999, zlc999999999999, zlc1073741824, zi_neg, zi_add, zi_sub, zi_mul, zl_neg, zl_add, zl_sub, zl_mul, zi_toInt, zi_nat, zi_le, zi_lt, zi_eq, zl_le, zl_lt, zl_eq, zl_toInt, zl_of32, zi_of64, zi_div, zl_div, zmodI, ↓reduceIte, zTle, zFle, zTlt, zFlt, zTeq, zFeq, if_true, if_false, and_self, and_true, true_and, and_false, false_and, or_self, or_true, true_or, or_false, false_or, not_true_eq_false, not_false_eq_true, zcastA, zcastL, znatC, zab, Int.reduceAdd, Int.reduceSub, Int.reduceMul, Int.reduceNeg, Int.reduceToNat, Nat.reduceAdd]
        exact R
      · obtain ⟨r1, e1, v1, E1, a1, a2, a3, a4, a5, a6⟩ := M1 d len Y ν r a b e m B hd br s v hhd hB hY e6 e67 e75 hM e76 e78 hh h0
        obtain ⟨hm, hs, hbr⟩ := hh
        obtain ⟨r2, a', b', e2, E2, b1, b2, b3⟩ := hRM d len Y ν r1 (wrL a (B + m) (cs.map opo)) (wrL b (B + m) (cs.map opa)) e1 (m + cs.length) B hd br s 0 v1 hhd hB hY (by rw [a6 6 (by decide) (by decide) (by decide) (by decide) (by decide) (by decide) (by decide)]; exact e6) (by rw [a6 67 (by decide) (by decide) (by decide) (by decide) (by decide) (by decide) (by decide)]; exact e67) a2 a1 a3 a4 ⟨by omega, hs, hbr, by omega⟩ (by
          rcases h0 with q | q
          · exact Or.inl q
          · by_cases z : s = 0
            · exact Or.inl z
            · exact Or.inr (by rw [a5 _ (by omega)]; exact q)) (fun w => by omega) (fun w => by omega)
        exact ⟨r2, a', b', e2, E1.trans E2, b1, b2, frM_tr (frM_wR a6 (by rw [List.length_map]; omega) (by rw [List.length_map]; omega)) b3⟩
  · refine Or.inr ⟨ft, kf, fun D len X ν c q f m hD hX e5 hm => ?_, fun d len Y ν r a b e m B hd br s v hhd hB hY e6 e67 e75 hM e76 e78 hh h0 => ?_⟩
    · obtain ⟨D, rfl⟩ : ∃ D', D = D' + 8 := ⟨D - 8, by omega⟩
      obtain ⟨c', q', f', U, U1⟩ := hPC (D + 7) len X ν c q f m (by omega) hX e5 hm
      refine ⟨c', q', f', ?_, U1⟩
      rw [B_X7_readWhen]
      simp (disch := omega) only [U, B_X7_readWhen_5, zbi_some, zbl_some, zbv_some, zbi_none, zbl_none, zbv_none, zbi_ite, zbl_ite, zbv_ite, zbZ, zbO, zc_lt, zc_le, zc_ge, zc_gt, zc_eq, zk0, zk1, zk2, zk3, zk4, zk5, zk6, zk7, zk8, zk9, zk10, zk11, zk12, zk14, zk15, zk16, zk17, zk19, zk20, zk21, zk24, zk25, zk30, zk32, zk36, zk40, zk45, zk50, zk64, zk97, zk99, zk100, zk102, zk122, zk128, zk255, zk800, zk801, zk900, zk999, zk1000, zk1997, zk9999, zk10000, zk100000, zk99999, zk9999999, zk999999999, zk2147483647, zlc0, zlc1, zlc2, zlc3, zlc4, zlc23, zlc99, zlc100, zlc9999999, zlc999999999999, zlc1073741824, zi_neg, zi_add, zi_sub, zi_mul, zl_neg, zl_add, zl_sub, zl_mul, zi_toInt, zi_nat, zi_le, zi_lt, zi_eq, zl_le, zl_lt, zl_eq, zl_toInt, zl_of32, zi_of64, zi_div, zl_div, zmodI, ↓reduceIte, zTle, zFle, zTlt, zFlt, zTeq, zFeq, if_true, if_false, and_self, and_true, true_and, and_false, false_and, or_self, or_true, true_or, or_false, false_or, not_true_eq_false, not_false_eq_true, zcastA, zcastL, znatC, zab, Int.reduceAdd, Int.reduceSub, Int.reduceMul, Int.reduceNeg, Int.reduceToNat, Nat.reduceAdd]
    · obtain ⟨hm, hs, hbr⟩ := hh
      exact hPM d len Y ν r a b e m B hd br s 0 v hhd hB hY e6 e67 e75 hM e76 e78 ⟨hm, by omega, hbr, by omega, by omega⟩ (fun i hi => by omega) (by
        rcases h0 with q | q
        · exact Or.inl q.symm
        · right
          rw [show s - 1 - 0 = s - 1 by omega, q]
          decide)
/-- a comparison as a condition -/
theorem cc_cmp (S : Strm g L K pl nn ty va) (hL : L ≤ 800) (hg : ∀ i, 0 ≤ g i ∧ g i ≤ 255) (o k : Nat) (ho : o ≤ 8) (hk : k ≤ K) (hne : kd ty va k ≠ 137 ∧ kd ty va k ≠ 40) : CC g L K pl nn ty va o k := by
  have hKL := S.2.1.2.2.2
  have z15 : (15 : Int32) = zi 15 := rfl
  have M1 : ∀ (d len : Nat) (Y : zMu) (ν : zNu) (r a b e : Nat → Int32) (br : Int) (v : Value), MS pl nn ty va r k → zE zc_X12_readAny (zF zT0 (d + 7)) 9 [.ref 92, .int (zi br), .int (zi 1), v] [] (zm len (Mm Y r a b e) ν) = zbi (zF zT0 (d + 7) 257 [.ref 92] (zm len (Mm Y r a b e) ν)) (fun w' M' => zE zc_X12_readAny (zF zT0 (d + 7)) 92 [.ref 92, .int (zi br), .int (zi 1), .int (zi 0)] [.int w'] M') := fun d len Y ν r a b e br v hM => by
    have w1 := M_wd S hk hM (d + 6) len Y ν a b e (w := 15) 137 (by omega)
    have s1 := M_sg S hk hM (d + 6) len Y ν a b e (c := 40) (by decide)
    rw [B_X12_readAny_9]
    simp (disch := omega) only [z15, w1, s1, hne.1, hne.2, zbF, B_X12_readAny_19, B_X12_readAny_30, zbi_some, zbl_some, zbv_some, zbi_none, zbl_none, zbv_none, zbi_ite, zbl_ite, zbv_ite, zbZ, zbO, zc_lt, zc_le, zc_ge, zc_gt, zc_eq, zk0, zk1, zk2, zk3, zk4, zk5, zk6, zk7, zk8, zk9, zk10, zk11, zk12, zk14, zk15, zk16, zk17, zk19, zk20, zk21, zk24, zk25, zk30, zk32, zk36, zk40, zk45, zk50, zk64, zk97, zk99, zk100, zk102, zk122, zk128, zk255, zk800, zk801, zk900, zk999, zk1000, zk1997, zk9999, zk10000, zk100000, zk99999, zk9999999, zk999999999, zk2147483647, zlc0, zlc1, zlc2, zlc3, zlc4, zlc23, zlc99, zlc100, zlc9999999, zlc999999999999, zlc1073741824, zi_neg, zi_add, zi_sub, zi_mul, zl_neg, zl_add, zl_sub, zl_mul, zi_toInt, zi_nat, zi_le, zi_lt, zi_eq, zl_le, zl_lt, zl_eq, zl_toInt, zl_of32, zi_of64, zi_div, zl_div, zmodI, ↓reduceIte, zTle, zFle, zTlt, zFlt, zTeq, zFeq, if_true, if_false, and_self, and_true, true_and, and_false, false_and, or_self, or_true, true_or, or_false, false_or, not_true_eq_false, not_false_eq_true, zcastA, zcastL, znatC, zab, Int.reduceAdd, Int.reduceSub, Int.reduceMul, Int.reduceNeg, Int.reduceToNat, Nat.reduceAdd]
  rcases cmp_ok S hL hg k hk hne (o : Int) with ⟨k1, cs, ⟨l1, l2, l3⟩, hT, hPC, hPM⟩ | ⟨ft, kf, hPC, hPM⟩
  · refine Or.inl ⟨k1, cs, ⟨l1, l2, l3⟩, fun h T hh => hT h T (by omega), fun D len X ν c q f m hD hX e5 hm => hPC D len X ν c q f m (by omega) hX e5 hm, fun d len Y ν r a b e m B hd br s t v hhd hB hY e6 e67 e75 hM e76 e78 ⟨hm, hs, hbr, hts, hto⟩ h1 h2 => ?_⟩
    obtain ⟨r1, U, a1, a2, a3⟩ := hPM d len Y ν r a b e m B hd hhd hB hY e6 e67 e75 (by omega) hM
    obtain ⟨r2, E2, b1, b2, b3, b4⟩ := F_settle (d + 5) len ν Y hhd hB 9 (by decide) t r1 (wrL a (B + m) (cs.map opo)) (wrL b (B + m) (cs.map opa)) e (m + cs.length) s o (by omega) (by omega) hts (fun _ => hto) (by rw [a3 67 (by decide) (by decide) (by decide) (by decide) (by decide)]; exact e67) a2 (by rw [a3 78 (by decide) (by decide) (by decide) (by decide) (by decide)]; exact e78) (by rw [a3 76 (by decide) (by decide) (by decide) (by decide) (by decide)]; exact e76) h1 h2
    refine ⟨r2, e, .int (zi 0), ?_, MS_fr a1 (fun i i7 i10 => b4 i (by omega) (by omega) (by omega)), b1, by rw [b3, if_pos rfl], b2, fun _ _ => rfl, fun i i7 i8 i9 i10 i75 i76 i78 => by rw [b4 i i75 i76 i78, a3 i i7 i8 i9 i10 i75]⟩
    rw [M1 d len Y ν r a b e br v hM, U]
    simp (disch := omega) only [B_X12_readAny_92, E2, B_X12_readAny_104, zbi_some, zbl_some, zbv_some, zbi_none, zbl_none, zbv_none, zbi_ite, zbl_ite, zbv_ite, zbZ, zbO, zc_lt, zc_le, zc_ge, zc_gt, zc_eq, zk0, zk1, zk2, zk3, zk4, zk5, zk6, zk7, zk8, zk9, zk10, zk11, zk12, zk14, zk15, zk16, zk17, zk19, zk20, zk21, zk24, zk25, zk30, zk32, zk36, zk40, zk45, zk50, zk64, zk97, zk99, zk100, zk102, zk122, zk128, zk255, zk800, zk801, zk900, zk999, zk1000, zk1997, zk9999, zk10000, zk100000, zk99999, zk9999999, zk999999999, zk2147483647, zlc0, zlc1, zlc2, zlc3, zlc4, zlc23, zlc99, zlc100, zlc9999999, zlc999999999999, zlc1073741824, zi_neg, zi_add, zi_sub, zi_mul, zl_neg, zl_add, zl_sub, zl_mul, zi_toInt, zi_nat, zi_le, zi_lt, zi_eq, zl_le, zl_lt, zl_eq, zl_toInt, zl_of32, zi_of64, zi_div, zl_div, zmodI, ↓reduceIte, zTle, zFle, zTlt, zFlt, zTeq, zFeq, if_true, if_false, and_self, and_true, true_and, and_false, false_and, or_self, or_true, true_or, or_false, false_or, not_true_eq_false, not_false_eq_true, zcastA, zcastL, znatC, zab, Int.reduceAdd, Int.reduceSub, Int.reduceMul, Int.reduceNeg, Int.reduceToNat, Nat.reduceAdd]
    rw [wrL_cat _ a (B + m) (B + (m + cs.length)) cs _ (by omega), wrL_cat _ b (B + m) (B + (m + cs.length)) cs _ (by omega)]
  · refine Or.inr ⟨ft, kf, fun D len X ν c q f m hD hX e5 hm => hPC D len X ν c q f m (by omega) hX e5 hm, fun d len Y ν r a b e m B hd br s t v hhd hB hY e6 e67 e75 hM e76 e78 ⟨hm, hs, hbr, hts, hto⟩ h1 h2 => ?_⟩
    obtain ⟨r1, a', b', U, a1, a2, a3⟩ := hPM d len Y ν r a b e m B hd hhd hB hY e6 e67 e75 (by omega) hM
    refine ⟨r1, a', b', e, ?_, a1, a2, a3⟩
    rw [M1 d len Y ν r a b e br v hM, U]
    simp (disch := omega) only [B_X12_readAny_92, zbi_some, zbl_some, zbv_some, zbi_none, zbl_none, zbv_none, zbi_ite, zbl_ite, zbv_ite, zbZ, zbO, zc_lt, zc_le, zc_ge, zc_gt, zc_eq, zk0, zk1, zk2, zk3, zk4, zk5, zk6, zk7, zk8, zk9, zk10, zk11, zk12, zk14, zk15, zk16, zk17, zk19, zk20, zk21, zk24, zk25, zk30, zk32, zk36, zk40, zk45, zk50, zk64, zk97, zk99, zk100, zk102, zk122, zk128, zk255, zk800, zk801, zk900, zk999, zk1000, zk1997, zk9999, zk10000, zk100000, zk99999, zk9999999, zk999999999, zk2147483647, zlc0, zlc1, zlc2, zlc3, zlc4, zlc23, zlc99, zlc100, zlc9999999, zlc999999999999, zlc1073741824, zi_neg, zi_add, zi_sub, zi_mul, zl_neg, zl_add, zl_sub, zl_mul, zi_toInt, zi_nat, zi_le, zi_lt, zi_eq, zl_le, zl_lt, zl_eq, zl_toInt, zl_of32, zi_of64, zi_div, zl_div, zmodI, ↓reduceIte, zTle, zFle, zTlt, zFlt, zTeq, zFeq, if_true, if_false, and_self, and_true, true_and, and_false, false_and, or_self, or_true, true_or, or_false, false_or, not_true_eq_false, not_false_eq_true, zcastA, zcastL, znatC, zab, Int.reduceAdd, Int.reduceSub, Int.reduceMul, Int.reduceNeg, Int.reduceToNat, Nat.reduceAdd]
theorem cc_ok (S : Strm g L K pl nn ty va) (hL : L ≤ 800) (hg : ∀ i, 0 ≤ g i ∧ g i ≤ 255) : ∀ n k : Nat, K - k ≤ n → k ≤ K → ∀ o, o ≤ 8 → CC g L K pl nn ty va o k := by
  have hKL := S.2.1.2.2.2
  have z15 : (15 : Int32) = zi 15 := rfl
  have zm137 : (-137 : Int32) = zi (-137) := rfl
  intro n
  induction n with
  | zero =>
    intro k hn hk o ho
    have : k = K := by omega
    subst this
    have kz := (kd_c S hk).2.mpr rfl
    exact cc_cmp S hL hg o k ho hk (by rw [kz]; decide)
  | succ n ih =>
    intro k hn hk o ho
    by_cases hne : kd ty va k ≠ 137 ∧ kd ty va k ≠ 40
    · exact cc_cmp S hL hg o k ho hk hne
    have hkK : k < K := by
      rcases Nat.lt_or_ge k K with z | z
      · exact z
      · have := (kd_c S hk).2.mpr (by omega)
        rw [this] at hne
        exact absurd ⟨by decide, by decide⟩ hne
    by_cases o8 : o = 8
    · -- one too many
      refine Or.inr ⟨3, k, fun D len X ν c q f m hD hX e5 hm => ?_, fun d len Y ν r a b e m B hd br s t v hhd hB hY e6 e67 e75 hM e76 e78 ⟨hm, hs, hbr, hts, hto⟩ h1 h2 => ?_⟩
      · obtain ⟨D, rfl⟩ : ∃ D', D = D' + 7 := ⟨D - 7, by omega⟩
        have A := S_kind hk (by omega) (D + 5) len hX ν c q f m
        obtain ⟨c', q', f', U, U1⟩ := S_fail hk (by omega) (D + 5) len hX ν c q f m 3
        refine ⟨c', q', f', ?_, U1⟩
        rw [B_X7_readCondition]
        by_cases c137 : kd ty va k = 137
        · rw [c137] at A
          simp (disch := omega) only [A, B_X7_readCondition_7, zq137, o8, B_X7_readCondition_21, U, B_X7_readCondition_35, zbi_some, zbl_some, zbv_some, zbi_none, zbl_none, zbv_none, zbi_ite, zbl_ite, zbv_ite, zbZ, zbO, zc_lt, zc_le, zc_ge, zc_gt, zc_eq, zk0, zk1, zk2, zk3, zk4, zk5, zk6, zk7, zk8, zk9, zk10, zk11, zk12, zk14, zk15, zk16, zk17, zk19, zk20, zk21, zk24, zk25, zk30, zk32, zk36, zk40, zk45, zk50, zk64, zk97, zk99, zk100, zk102, zk122, zk128, zk255, zk800, zk801, zk900, zk999, zk1000, zk1997, zk9999, zk10000, zk100000, zk99999, zk9999999, zk999999999, zk2147483647, zlc0, zlc1, zlc2, zlc3, zlc4, zlc23, zlc99, zlc100, zlc9999999, zlc999999999999, zlc1073741824, zi_neg, zi_add, zi_sub, zi_mul, zl_neg, zl_add, zl_sub, zl_mul, zi_toInt, zi_nat, zi_le, zi_lt, zi_eq, zl_le, zl_lt, zl_eq, zl_toInt, zl_of32, zi_of64, zi_div, zl_div, zmodI, ↓reduceIte, zTle, zFle, zTlt, zFlt, zTeq, zFeq, if_true, if_false, and_self, and_true, true_and, and_false, false_and, or_self, or_true, true_or, or_false, false_or, not_true_eq_false, not_false_eq_true, zcastA, zcastL, znatC, zab, Int.reduceAdd, Int.reduceSub, Int.reduceMul, Int.reduceNeg, Int.reduceToNat, Nat.reduceAdd]
        · have c40 : kd ty va k = 40 := by
            by_cases z : kd ty va k = 40
            · exact z
            · exact absurd ⟨c137, z⟩ hne
          rw [c40] at A
          simp (disch := omega) only [A, B_X7_readCondition_7, zq137, o8, B_X7_readCondition_21, U, B_X7_readCondition_35, zbi_some, zbl_some, zbv_some, zbi_none, zbl_none, zbv_none, zbi_ite, zbl_ite, zbv_ite, zbZ, zbO, zc_lt, zc_le, zc_ge, zc_gt, zc_eq, zk0, zk1, zk2, zk3, zk4, zk5, zk6, zk7, zk8, zk9, zk10, zk11, zk12, zk14, zk15, zk16, zk17, zk19, zk20, zk21, zk24, zk25, zk30, zk32, zk36, zk40, zk45, zk50, zk64, zk97, zk99, zk100, zk102, zk122, zk128, zk255, zk800, zk801, zk900, zk999, zk1000, zk1997, zk9999, zk10000, zk100000, zk99999, zk9999999, zk999999999, zk2147483647, zlc0, zlc1, zlc2, zlc3, zlc4, zlc23, zlc99, zlc100, zlc9999999, zlc999999999999, zlc1073741824, zi_neg, zi_add, zi_sub, zi_mul, zl_neg, zl_add, zl_sub, zl_mul, zi_toInt, zi_nat, zi_le, zi_lt, zi_eq, zl_le, zl_lt, zl_eq, zl_toInt, zl_of32, zi_of64, zi_div, zl_div, zmodI, ↓reduceIte, zTle, zFle, zTlt, zFlt, zTeq, zFeq, if_true, if_false, and_self, and_true, true_and, and_false, false_and, or_self, or_true, true_or, or_false, false_or, not_true_eq_false, not_false_eq_true, zcastA, zcastL, znatC, zab, Int.reduceAdd, Int.reduceSub, Int.reduceMul, Int.reduceNeg, Int.reduceToNat, Nat.reduceAdd]
      · have w1 := M_wd S hk hM (d + 6) len Y ν a b e (w := 15) 137 (by omega)
        have s1 := M_sg S hk hM (d + 6) len Y ν a b e (c := 40) (by decide)
        obtain ⟨r2, N, P1, P2, P3⟩ := M_fails S hM (d + 5) len Y ν a b e 3
        refine ⟨r2, a, b, e, ?_, P1, P2, frM_r (fun i i7 i8 i9 i10 i12 i13 _ _ _ => P3 i i12 i13)⟩
        rw [B_X12_readAny_9]
        by_cases c137 : kd ty va k = 137
        · rw [c137] at w1
          simp (disch := omega) only [z15, w1, zbT, B_X12_readAny_19, B_X12_readAny_33, zrw_s, e76, o8, N, B_X12_readAny_47, zbi_some, zbl_some, zbv_some, zbi_none, zbl_none, zbv_none, zbi_ite, zbl_ite, zbv_ite, zbZ, zbO, zc_lt, zc_le, zc_ge, zc_gt, zc_eq, zk0, zk1, zk2, zk3, zk4, zk5, zk6, zk7, zk8, zk9, zk10, zk11, zk12, zk14, zk15, zk16, zk17, zk19, zk20, zk21, zk24, zk25, zk30, zk32, zk36, zk40, zk45, zk50, zk64, zk97, zk99, zk100, zk102, zk122, zk128, zk255, zk800, zk801, zk900, zk999, zk1000, zk1997, zk9999, zk10000, zk100000, zk99999, zk9999999, zk999999999, zk2147483647, zlc0, zlc1, zlc2, zlc3, zlc4, zlc23, zlc99, zlc100, zlc9999999, zlc999999999999, zlc1073741824, zi_neg, zi_add, zi_sub, zi_mul, zl_neg, zl_add, zl_sub, zl_mul, zi_toInt, zi_nat, zi_le, zi_lt, zi_eq, zl_le, zl_lt, zl_eq, zl_toInt, zl_of32, zi_of64, zi_div, zl_div, zmodI, ↓reduceIte, zTle, zFle, zTlt, zFlt, zTeq, zFeq, if_true, if_false, and_self, and_true, true_and, and_false, false_and, or_self, or_true, true_or, or_false, false_or, not_true_eq_false, not_false_eq_true, zcastA, zcastL, znatC, zab, Int.reduceAdd, Int.reduceSub, Int.reduceMul, Int.reduceNeg, Int.reduceToNat, Nat.reduceAdd]
        · have c40 : kd ty va k = 40 := by
            by_cases z : kd ty va k = 40
            · exact z
            · exact absurd ⟨c137, z⟩ hne
          rw [c40] at w1 s1
          simp (disch := omega) only [z15, w1, s1, zbT, zbF, B_X12_readAny_19, B_X12_readAny_30, B_X12_readAny_33, zrw_s, e76, o8, N, B_X12_readAny_47, zbi_some, zbl_some, zbv_some, zbi_none, zbl_none, zbv_none, zbi_ite, zbl_ite, zbv_ite, zbZ, zbO, zc_lt, zc_le, zc_ge, zc_gt, zc_eq, zk0, zk1, zk2, zk3, zk4, zk5, zk6, zk7, zk8, zk9, zk10, zk11, zk12, zk14, zk15, zk16, zk17, zk19, zk20, zk21, zk24, zk25, zk30, zk32, zk36, zk40, zk45, zk50, zk64, zk97, zk99, zk100, zk102, zk122, zk128, zk255, zk800, zk801, zk900, zk999, zk1000, zk1997, zk9999, zk10000, zk100000, zk99999, zk9999999, zk999999999, zk2147483647, zlc0, zlc1, zlc2, zlc3, zlc4, zlc23, zlc99, zlc100, zlc9999999, zlc999999999999, zlc1073741824, zi_neg, zi_add, zi_sub, zi_mul, zl_neg, zl_add, zl_sub, zl_mul, zi_toInt, zi_nat, zi_le, zi_lt, zi_eq, zl_le, zl_lt, zl_eq, zl_toInt, zl_of32, zi_of64, zi_div, zl_div, zmodI, ↓reduceIte, zTle, zFle, zTlt, zFlt, zTeq, zFeq, if_true, if_false, and_self, and_true, true_and, and_false, false_and, or_self, or_true, true_or, or_false, false_or, not_true_eq_false, not_false_eq_true, zcastA, zcastL, znatC, zab, Int.reduceAdd, Int.reduceSub, Int.reduceMul, Int.reduceNeg, Int.reduceToNat, Nat.reduceAdd]
    have o7 : o + 1 ≤ 8 := by omega
    by_cases c137 : kd ty va k = 137
    · -- not
      have C1 : ∀ (D len : Nat) (X : zMu) (ν : zNu) (c q f : Nat → Int32) (m : Nat), CcX K pl ty va X → c 5 = zi ((K : Int) + 1) → m ≤ k → zF zT0 (D + 7) 89 [.ref 57, .int (zi (o : Int))] (zm len (ST X c q k m f) ν) = zbi (zF zT0 (D + 6) 89 [.ref 57, .int (zi ((o + 1 : Nat) : Int))] (zm len (ST X c q (k + 1) m f) ν)) (fun w' M' => zE zc_X7_readCondition (zF zT0 (D + 6)) 84 [.ref 57, .int (zi (o : Int)), .int (zi 137), zU] [.int w'] M') := fun D len X ν c q f m hX e5 hm => by
        have A := S_kind hk (by omega) (D + 5) len hX ν c q f m
        have E := S_move hkK (by omega) (D + 5) len X ν c q f e5 m
        rw [c137] at A
        rw [B_X7_readCondition]
        simp (disch := omega) only [A, B_X7_readCondition_7, zq137, B_X7_readCondition_21, E, B_X7_readCondition_43, zbi_some, zbl_some, zbv_some, zbi_none, zbl_none, zbv_none, zbi_ite, zbl_ite, zbv_ite, zbZ, zbO, zc_lt, zc_le, zc_ge, zc_gt, zc_eq, zk0, zk1, zk2, zk3, zk4, zk5, zk6, zk7, zk8, zk9, zk10, zk11, zk12, zk14, zk15, zk16, zk17, zk19, zk20, zk21, zk24, zk25, zk30, zk32, zk36, zk40, zk45, zk50, zk64, zk97, zk99, zk100, zk102, zk122, zk128, zk255, zk800, zk801, zk900, zk999, zk1000, zk1997, zk9999, zk10000, zk100000, zk99999, zk9999999, zk999999999, zk2147483647, zlc0, zlc1, zlc2, zlc3, zlc4, zlc23, zlc99, zlc100, zlc9999999, zlc999999999999, zlc1073741824, zi_neg, zi_add, zi_sub, zi_mul, zl_neg, zl_add, zl_sub, zl_mul, zi_toInt, zi_nat, zi_le, zi_lt, zi_eq, zl_le, zl_lt, zl_eq, zl_toInt, zl_of32, zi_of64, zi_div, zl_div, zmodI, ↓reduceIte, zTle, zFle, zTlt, zFlt, zTeq, zFeq, if_true, if_false, and_self, and_true, true_and, and_false, false_and, or_self, or_true, true_or, or_false, false_or, not_true_eq_false, not_false_eq_true, zcastA, zcastL, znatC, zab, Int.reduceAdd, Int.reduceSub, Int.reduceMul, Int.reduceNeg, Int.reduceToNat, Nat.reduceAdd]
      have M1 : ∀ (d len : Nat) (Y : zMu) (ν : zNu) (r a b e : Nat → Int32) (br s : Nat) (v : Value), CcY g Y → r 6 = zi (L : Int) → MS pl nn ty va r k → r 76 = zi (o : Int) → r 78 = zi (s : Int) → s ≤ 30 → ∃ (r' : Nat → Int32) (v' : Value), zE zc_X12_readAny (zF zT0 (d + 7)) 9 [.ref 92, .int (zi (br : Int)), .int (zi 1), v] [] (zm len (Mm Y r a b e) ν) = zE zc_X12_readAny (zF zT0 (d + 7)) 9 [.ref 92, .int (zi (br : Int)), .int (zi 1), v'] [] (zm len (Mm Y r' a b (upd e s (zi 9))) ν) ∧ MS pl nn ty va r' (k + 1) ∧ r' 75 = r 75 ∧ r' 76 = zi ((o + 1 : Nat) : Int) ∧ r' 78 = zi ((s + 1 : Nat) : Int) ∧ frR r r' := fun d len Y ν r a b e br s v hY e6 hM e76 e78 hs => by
        have w1 := M_wd S hk hM (d + 6) len Y ν a b e (w := 15) 137 (by omega)
        rw [c137] at w1
        have W := F_waits (d + 6) len ν Y (upd r 76 (zi ((o : Int) + 1))) a b e (s := s) (by omega) (by rw [upd_ne _ _ (by decide)]; exact e78) (zi 9)
        obtain ⟨r2, N, R1, R2⟩ := F_nextM S hL hg (d + 4) len Y ν (upd (upd r 76 (zi ((o : Int) + 1))) 78 (zi ((s : Int) + 1))) a b (upd e s (zi 9)) hY e6 hkK hM.1
        refine ⟨r2, .int (zi 1), ?_, R1, by rw [R2 75 (by decide) (by decide) (by decide) (by decide)]; rfl, by rw [R2 76 (by decide) (by decide) (by decide) (by decide)]; rfl, by rw [R2 78 (by decide) (by decide) (by decide) (by decide)]; rfl, fun i i7 i8 i9 i10 i75 i76 i78 => by rw [R2 i i7 i8 i9 i10, upd_ne _ _ i78, upd_ne _ _ i76]⟩
        rw [B_X12_readAny_9]
        simp (disch := omega) only [z15, w1, zbT, B_X12_readAny_19, B_X12_readAny_33, zrw_s, e76, zup_zrw, zbi_some, zbl_some, zbv_some, zbi_none, zbl_none, zbv_none, zbi_ite, zbl_ite, zbv_ite, zbZ, zbO, zc_lt, zc_le, zc_ge, zc_gt, zc_eq, zk0, zk1, zk2, zk3, zk4, zk5, zk6, zk7, zk8, zk9, zk10, zk11, zk12, zk14, zk15, zk16, zk17, zk19, zk20, zk21, zk24, zk25, zk30, zk32, zk36, zk40, zk45, zk50, zk64, zk97, zk99, zk100, zk102, zk122, zk128, zk255, zk800, zk801, zk900, zk999, zk1000, zk1997, zk9999, zk10000, zk100000, zk99999, zk9999999, zk999999999, zk2147483647, zlc0, zlc1, zlc2, zlc3, zlc4, zlc23, zlc99, zlc100, zlc9999999, zlc999999999999, zlc1073741824, zi_neg, zi_add, zi_sub, zi_mul, zl_neg, zl_add, zl_sub, zl_mul, zi_toInt, zi_nat, zi_le, zi_lt, zi_eq, zl_le, zl_lt, zl_eq, zl_toInt, zl_of32, zi_of64, zi_div, zl_div, zmodI, ↓reduceIte, zTle, zFle, zTlt, zFlt, zTeq, zFeq, if_true, if_false, and_self, and_true, true_and, and_false, false_and, or_self, or_true, true_or, or_false, false_or, not_true_eq_false, not_false_eq_true, zcastA, zcastL, znatC, zab, Int.reduceAdd, Int.reduceSub, Int.reduceMul, Int.reduceNeg, Int.reduceToNat, Nat.reduceAdd]
        rw [B_X12_readAny_66]
        simp (disch := omega) only [B_X12_readAny_78, W, B_X12_readAny_81, N, B_X12_readAny_85, zbi_some, zbl_some, zbv_some, zbi_none, zbl_none, zbv_none, zbi_ite, zbl_ite, zbv_ite, zbZ, zbO, zc_lt, zc_le, zc_ge, zc_gt, zc_eq, zk0, zk1, zk2, zk3, zk4, zk5, zk6, zk7, zk8, zk9, zk10, zk11, zk12, zk14, zk15, zk16, zk17, zk19, zk20, zk21, zk24, zk25, zk30, zk32, zk36, zk40, zk45, zk50, zk64, zk97, zk99, zk100, zk102, zk122, zk128, zk255, zk800, zk801, zk900, zk999, zk1000, zk1997, zk9999, zk10000, zk100000, zk99999, zk9999999, zk999999999, zk2147483647, zlc0, zlc1, zlc2, zlc3, zlc4, zlc23, zlc99, zlc100, zlc9999999, zlc999999999999, zlc1073741824, zi_neg, zi_add, zi_sub, zi_mul, zl_neg, zl_add, zl_sub, zl_mul, zi_toInt, zi_nat, zi_le, zi_lt, zi_eq, zl_le, zl_lt, zl_eq, zl_toInt, zl_of32, zi_of64, zi_div, zl_div, zmodI, ↓reduceIte, zTle, zFle, zTlt, zFlt, zTeq, zFeq, if_true, if_false, and_self, and_true, true_and, and_false, false_and, or_self, or_true, true_or, or_false, false_or, not_true_eq_false, not_false_eq_true, zcastA, zcastL, znatC, zab, Int.reduceAdd, Int.reduceSub, Int.reduceMul, Int.reduceNeg, Int.reduceToNat, Nat.reduceAdd]
      have ent : ∀ (s t : Nat) (e : Nat → Int32), (∀ i, i < t → e (s - 1 - i) = zi 9) → t ≤ s → ∀ i, i < t + 1 → (upd e s (zi 9)) (s + 1 - 1 - i) = zi 9 := fun s t e h hts i hi => by
        by_cases z : i = 0
        · rw [z, show s + 1 - 1 - 0 = s by omega, upd_eq]
        · rw [upd_ne _ _ (by omega), show s + 1 - 1 - i = s - 1 - (i - 1) by omega]
          exact h (i - 1) (by omega)
      have ent2 : ∀ (s t : Nat) (e : Nat → Int32), (t = s ∨ e (s - 1 - t) ≠ zi 9) → t ≤ s → (t + 1 = s + 1 ∨ (upd e s (zi 9)) (s + 1 - 1 - (t + 1)) ≠ zi 9) := fun s t e h hts => by
        by_cases z : t = s
        · exact Or.inl (by omega)
        · right
          rcases h with q | q
          · exact absurd q z
          · rw [upd_ne _ _ (by omega), show s + 1 - 1 - (t + 1) = s - 1 - t by omega]
            exact q
      rcases ih (k + 1) (by omega) hkK (o + 1) o7 with ⟨k1, cs, ⟨l1, l2, l3⟩, hT, hPC, hPM⟩ | ⟨ft, kf, hPC, hPM⟩
      · refine Or.inl ⟨k1, cs ++ [(9, 0)], ⟨by omega, l2, by simp only [List.length_append, List.length_cons, List.length_nil]; omega⟩, fun h T hh => ?_, fun D len X ν c q f m hD hX e5 hm => ?_, fun d len Y ν r a b e m B hd br s t v hhd hB hY e6 e67 e75 hM e76 e78 ⟨hm, hs, hbr, hts, hto⟩ h1 h2 => ?_⟩
        · obtain ⟨T1, x1, y1, z1⟩ := hT h T (by omega)
          exact ⟨T1, RunL_app _ _ x1 ⟨h + 1, T1, Or.inr (Or.inr (Or.inr (Or.inl ⟨rfl, by omega, z1, rfl, fun _ _ => rfl⟩))), rfl, rfl⟩, y1, z1⟩
        · obtain ⟨D, rfl⟩ : ∃ D', D = D' + 7 := ⟨D - 7, by omega⟩
          have U := hPC (D + 6) len X ν c q f m (by omega) hX e5 (by omega)
          have W := S_write (D + 5) len X ν c q (wrL f m (cs.map opc)) (k := k1) (m := m + cs.length) (by omega) (zi (-137))
          rw [C1 D len X ν c q f m hX e5 hm, U, ← wrL_cat _ f m (m + cs.length) cs [((9 : Int), (0 : Int))] rfl]
          simp (disch := omega) only [B_X7_readCondition_84, zm137, W, B_X7_readCondition_96, zbi_some, zbl_some, zbv_some, zbi_none, zbl_none, zbv_none, zbi_ite, zbl_ite, zbv_ite, zbZ, zbO, zc_lt, zc_le, zc_ge, zc_gt, zc_eq, zk0, zk1, zk2, zk3, zk4, zk5, zk6, zk7, zk8, zk9, zk10, zk11, zk12, zk14, zk15, zk16, zk17, zk19, zk20, zk21, zk24, zk25, zk30, zk32, zk36, zk40, zk45, zk50, zk64, zk97, zk99, zk100, zk102, zk122, zk128, zk255, zk800, zk801, zk900, zk999, zk1000, zk1997, zk9999, zk10000, zk100000, zk99999, zk9999999, zk999999999, zk2147483647, zlc0, zlc1, zlc2, zlc3, zlc4, zlc23, zlc99, zlc100, zlc9999999, zlc999999999999, zlc1073741824, zi_neg, zi_add, zi_sub, zi_mul, zl_neg, zl_add, zl_sub, zl_mul, zi_toInt, zi_nat, zi_le, zi_lt, zi_eq, zl_le, zl_lt, zl_eq, zl_toInt, zl_of32, zi_of64, zi_div, zl_div, zmodI, ↓reduceIte, zTle, zFle, zTlt, zFlt, zTeq, zFeq, if_true, if_false, and_self, and_true, true_and, and_false, false_and, or_self, or_true, true_or, or_false, false_or, not_true_eq_false, not_false_eq_true, zcastA, zcastL, znatC, zab, Int.reduceAdd, Int.reduceSub, Int.reduceMul, Int.reduceNeg, Int.reduceToNat, Nat.reduceAdd]
          rw [show m + (cs ++ [((9 : Int), (0 : Int))]).length = m + cs.length + 1 by simp only [List.length_append, List.length_cons, List.length_nil]; omega]
          rfl
        · obtain ⟨r1, v1, E1, a1, a2, a3, a4, a5⟩ := M1 d len Y ν r a b e br s v hY e6 hM e76 e78 (by omega)
          obtain ⟨r2, e2, v2, E2, b1, b2, b3, b4, b5, b6⟩ := hPM d len Y ν r1 a b (upd e s (zi 9)) m B hd br (s + 1) (t + 1) v1 hhd hB hY (by rw [a5 6 (by decide) (by decide) (by decide) (by decide) (by decide) (by decide) (by decide)]; exact e6) (by rw [a5 67 (by decide) (by decide) (by decide) (by decide) (by decide) (by decide) (by decide)]; exact e67) (by rw [a2]; exact e75) a1 a3 a4 ⟨by omega, by omega, by omega, by omega, by omega⟩ (ent s t e h1 hts) (ent2 s t e h2 hts)
          refine ⟨r2, e2, v2, E1.trans (E2.trans ?_), b1, ?_, by rw [b3, show o + 1 - (t + 1) = o - t by omega], by rw [b4, show s + 1 - (t + 1) = s - t by omega], fun i hi => by rw [b5 i (by omega), upd_ne _ _ (by omega)], fun i i7 i8 i9 i10 i75 i76 i78 => by rw [b6 i i7 i8 i9 i10 i75 i76 i78, a5 i i7 i8 i9 i10 i75 i76 i78]⟩
          · rw [List.append_assoc]
            rfl
          · rw [b2, show m + cs.length + (t + 1) = m + (cs ++ [((9 : Int), (0 : Int))]).length + t by simp only [List.length_append, List.length_cons, List.length_nil]; omega]
      · refine Or.inr ⟨ft, kf, fun D len X ν c q f m hD hX e5 hm => ?_, fun d len Y ν r a b e m B hd br s t v hhd hB hY e6 e67 e75 hM e76 e78 ⟨hm, hs, hbr, hts, hto⟩ h1 h2 => ?_⟩
        · obtain ⟨D, rfl⟩ : ∃ D', D = D' + 7 := ⟨D - 7, by omega⟩
          obtain ⟨c', q', f', U, U1⟩ := hPC (D + 6) len X ν c q f m (by omega) hX e5 (by omega)
          refine ⟨c', q', f', ?_, U1⟩
          rw [C1 D len X ν c q f m hX e5 hm, U]
          simp (disch := omega) only [B_X7_readCondition_84, zbi_some, zbl_some, zbv_some, zbi_none, zbl_none, zbv_none, zbi_ite, zbl_ite, zbv_ite, zbZ, zbO, zc_lt, zc_le, zc_ge, zc_gt, zc_eq, zk0, zk1, zk2, zk3, zk4, zk5, zk6, zk7, zk8, zk9, zk10, zk11, zk12, zk14, zk15, zk16, zk17, zk19, zk20, zk21, zk24, zk25, zk30, zk32, zk36, zk40, zk45, zk50, zk64, zk97, zk99, zk100, zk102, zk122, zk128, zk255, zk800, zk801, zk900, zk999, zk1000, zk1997, zk9999, zk10000, zk100000, zk99999, zk9999999, zk999999999, zk2147483647, zlc0, zlc1, zlc2, zlc3, zlc4, zlc23, zlc99, zlc100, zlc9999999, zlc999999999999, zlc1073741824, zi_neg, zi_add, zi_sub, zi_mul, zl_neg, zl_add, zl_sub, zl_mul, zi_toInt, zi_nat, zi_le, zi_lt, zi_eq, zl_le, zl_lt, zl_eq, zl_toInt, zl_of32, zi_of64, zi_div, zl_div, zmodI, ↓reduceIte, zTle, zFle, zTlt, zFlt, zTeq, zFeq, if_true, if_false, and_self, and_true, true_and, and_false, false_and, or_self, or_true, true_or, or_false, false_or, not_true_eq_false, not_false_eq_true, zcastA, zcastL, znatC, zab, Int.reduceAdd, Int.reduceSub, Int.reduceMul, Int.reduceNeg, Int.reduceToNat, Nat.reduceAdd]
        · obtain ⟨r1, v1, E1, a1, a2, a3, a4, a5⟩ := M1 d len Y ν r a b e br s v hY e6 hM e76 e78 (by omega)
          obtain ⟨r2, a', b', e2, E2, b1, b2, b3⟩ := hPM d len Y ν r1 a b (upd e s (zi 9)) m B hd br (s + 1) (t + 1) v1 hhd hB hY (by rw [a5 6 (by decide) (by decide) (by decide) (by decide) (by decide) (by decide) (by decide)]; exact e6) (by rw [a5 67 (by decide) (by decide) (by decide) (by decide) (by decide) (by decide) (by decide)]; exact e67) (by rw [a2]; exact e75) a1 a3 a4 ⟨by omega, by omega, by omega, by omega, by omega⟩ (ent s t e h1 hts) (ent2 s t e h2 hts)
          exact ⟨r2, a', b', e2, E1.trans E2, b1, b2, frM_tr (frM_r (fun i i7 i8 i9 i10 _ _ i75 i76 i78 => a5 i i7 i8 i9 i10 i75 i76 i78)) b3⟩
    · -- brackets
      have c40 : kd ty va k = 40 := by
        by_cases z : kd ty va k = 40
        · exact z
        · exact absurd ⟨c137, z⟩ hne
      have xb : ∀ k, k ≤ K → 0 ≤ kd ty va k ∧ kd ty va k ≤ 142 := fun k hk => by have := (kd_c S hk).1; unfold Kc at this; omega
      have C1 : ∀ (D len : Nat) (X : zMu) (ν : zNu) (c q f : Nat → Int32) (m : Nat), CcX K pl ty va X → c 5 = zi ((K : Int) + 1) → m ≤ k → zF zT0 (D + 7) 89 [.ref 57, .int (zi (o : Int))] (zm len (ST X c q k m f) ν) = zbi (zF zT0 (D + 6) 88 [.ref 57, .int (zi ((o + 1 : Nat) : Int))] (zm len (ST X c q (k + 1) m f) ν)) (fun w' M' => zE zc_X7_readCondition (zF zT0 (D + 6)) 56 [.ref 57, .int (zi (o : Int)), .int (zi 40), zU] [.int w'] M') := fun D len X ν c q f m hX e5 hm => by
        have A := S_kind hk (by omega) (D + 5) len hX ν c q f m
        have E := S_move hkK (by omega) (D + 5) len X ν c q f e5 m
        rw [c40] at A
        rw [B_X7_readCondition]
        simp (disch := omega) only [A, B_X7_readCondition_7, zq137, B_X7_readCondition_21, E, B_X7_readCondition_43, zbi_some, zbl_some, zbv_some, zbi_none, zbl_none, zbv_none, zbi_ite, zbl_ite, zbv_ite, zbZ, zbO, zc_lt, zc_le, zc_ge, zc_gt, zc_eq, zk0, zk1, zk2, zk3, zk4, zk5, zk6, zk7, zk8, zk9, zk10, zk11, zk12, zk14, zk15, zk16, zk17, zk19, zk20, zk21, zk24, zk25, zk30, zk32, zk36, zk40, zk45, zk50, zk64, zk97, zk99, zk100, zk102, zk122, zk128, zk255, zk800, zk801, zk900, zk999, zk1000, zk1997, zk9999, zk10000, zk100000, zk99999, zk9999999, zk999999999, zk2147483647, zlc0, zlc1, zlc2, zlc3, zlc4, zlc23, zlc99, zlc100, zlc9999999, zlc999999999999, zlc1073741824, zi_neg, zi_add, zi_sub, zi_mul, zl_neg, zl_add, zl_sub, zl_mul, zi_toInt, zi_nat, zi_le, zi_lt, zi_eq, zl_le, zl_lt, zl_eq, zl_toInt, zl_of32, zi_of64, zi_div, zl_div, zmodI, ↓reduceIte, zTle, zFle, zTlt, zFlt, zTeq, zFeq, if_true, if_false, and_self, and_true, true_and, and_false, false_and, or_self, or_true, true_or, or_false, false_or, not_true_eq_false, not_false_eq_true, zcastA, zcastL, znatC, zab, Int.reduceAdd, Int.reduceSub, Int.reduceMul, Int.reduceNeg, Int.reduceToNat, Nat.reduceAdd]
      have M1 : ∀ (d len : Nat) (Y : zMu) (ν : zNu) (r a b e : Nat → Int32) (br s : Nat) (v : Value), CcY g Y → r 6 = zi (L : Int) → MS pl nn ty va r k → r 76 = zi (o : Int) → r 78 = zi (s : Int) → s ≤ 30 → ∃ (r' : Nat → Int32) (v' : Value), zE zc_X12_readAny (zF zT0 (d + 7)) 9 [.ref 92, .int (zi (br : Int)), .int (zi 1), v] [] (zm len (Mm Y r a b e) ν) = zE zc_X12_readAny (zF zT0 (d + 7)) 9 [.ref 92, .int (zi ((br + 1 : Nat) : Int)), .int (zi 1), v'] [] (zm len (Mm Y r' a b (upd e s (zi 12))) ν) ∧ MS pl nn ty va r' (k + 1) ∧ r' 75 = r 75 ∧ r' 76 = zi ((o + 1 : Nat) : Int) ∧ r' 78 = zi ((s + 1 : Nat) : Int) ∧ frR r r' := fun d len Y ν r a b e br s v hY e6 hM e76 e78 hs => by
        have w1 := M_wd S hk hM (d + 6) len Y ν a b e (w := 15) 137 (by omega)
        have s1 := M_sg S hk hM (d + 6) len Y ν a b e (c := 40) (by decide)
        rw [c40] at w1 s1
        have W := F_waits (d + 6) len ν Y (upd r 76 (zi ((o : Int) + 1))) a b e (s := s) (by omega) (by rw [upd_ne _ _ (by decide)]; exact e78) (zi 12)
        obtain ⟨r2, N, R1, R2⟩ := F_nextM S hL hg (d + 4) len Y ν (upd (upd r 76 (zi ((o : Int) + 1))) 78 (zi ((s : Int) + 1))) a b (upd e s (zi 12)) hY e6 hkK hM.1
        refine ⟨r2, .int (zi 0), ?_, R1, by rw [R2 75 (by decide) (by decide) (by decide) (by decide)]; rfl, by rw [R2 76 (by decide) (by decide) (by decide) (by decide)]; rfl, by rw [R2 78 (by decide) (by decide) (by decide) (by decide)]; rfl, fun i i7 i8 i9 i10 i75 i76 i78 => by rw [R2 i i7 i8 i9 i10, upd_ne _ _ i78, upd_ne _ _ i76]⟩
        rw [B_X12_readAny_9]
        simp (disch := omega) only [z15, w1, s1, zbT, zbF, B_X12_readAny_19, B_X12_readAny_30, B_X12_readAny_33, zrw_s, e76, zup_zrw, zbi_some, zbl_some, zbv_some, zbi_none, zbl_none, zbv_none, zbi_ite, zbl_ite, zbv_ite, zbZ, zbO, zc_lt, zc_le, zc_ge, zc_gt, zc_eq, zk0, zk1, zk2, zk3, zk4, zk5, zk6, zk7, zk8, zk9, zk10, zk11, zk12, zk14, zk15, zk16, zk17, zk19, zk20, zk21, zk24, zk25, zk30, zk32, zk36, zk40, zk45, zk50, zk64, zk97, zk99, zk100, zk102, zk122, zk128, zk255, zk800, zk801, zk900, zk999, zk1000, zk1997, zk9999, zk10000, zk100000, zk99999, zk9999999, zk999999999, zk2147483647, zlc0, zlc1, zlc2, zlc3, zlc4, zlc23, zlc99, zlc100, zlc9999999, zlc999999999999, zlc1073741824, zi_neg, zi_add, zi_sub, zi_mul, zl_neg, zl_add, zl_sub, zl_mul, zi_toInt, zi_nat, zi_le, zi_lt, zi_eq, zl_le, zl_lt, zl_eq, zl_toInt, zl_of32, zi_of64, zi_div, zl_div, zmodI, ↓reduceIte, zTle, zFle, zTlt, zFlt, zTeq, zFeq, if_true, if_false, and_self, and_true, true_and, and_false, false_and, or_self, or_true, true_or, or_false, false_or, not_true_eq_false, not_false_eq_true, zcastA, zcastL, znatC, zab, Int.reduceAdd, Int.reduceSub, Int.reduceMul, Int.reduceNeg, Int.reduceToNat, Nat.reduceAdd]
        rw [B_X12_readAny_66]
        simp (disch := omega) only [B_X12_readAny_78, W, B_X12_readAny_81, N, B_X12_readAny_85, zbi_some, zbl_some, zbv_some, zbi_none, zbl_none, zbv_none, zbi_ite, zbl_ite, zbv_ite, zbZ, zbO, zc_lt, zc_le, zc_ge, zc_gt, zc_eq, zk0, zk1, zk2, zk3, zk4, zk5, zk6, zk7, zk8, zk9, zk10, zk11, zk12, zk14, zk15, zk16, zk17, zk19, zk20, zk21, zk24, zk25, zk30, zk32, zk36, zk40, zk45, zk50, zk64, zk97, zk99, zk100, zk102, zk122, zk128, zk255, zk800, zk801, zk900, zk999, zk1000, zk1997, zk9999, zk10000, zk100000, zk99999, zk9999999, zk999999999, zk2147483647, zlc0, zlc1, zlc2, zlc3, zlc4, zlc23, zlc99, zlc100, zlc9999999, zlc999999999999, zlc1073741824, zi_neg, zi_add, zi_sub, zi_mul, zl_neg, zl_add, zl_sub, zl_mul, zi_toInt, zi_nat, zi_le, zi_lt, zi_eq, zl_le, zl_lt, zl_eq, zl_toInt, zl_of32, zi_of64, zi_div, zl_div, zmodI, ↓reduceIte, zTle, zFle, zTlt, zFlt, zTeq, zFeq, if_true, if_false, and_self, and_true, true_and, and_false, false_and, or_self, or_true, true_or, or_false, false_or, not_true_eq_false, not_false_eq_true, zcastA, zcastL, znatC, zab, Int.reduceAdd, Int.reduceSub, Int.reduceMul, Int.reduceNeg, Int.reduceToNat, Nat.reduceAdd]
      rcases ww_ok S hL hg (o + 1) (k + 1) o7 hkK (fun k2 h1 h2 => ih k2 (by omega) h2 (o + 1) o7) with ⟨k1, cs, ⟨l1, l2, l3⟩, hT, hPC, hPM⟩ | ⟨ft, kf, hPC, hPM⟩
      · by_cases c41 : kd ty va k1 = 41
        · have hk1 : k1 < K := by
            rcases Nat.lt_or_ge k1 K with z | z
            · exact z
            · have := (kd_c S l2).2.mpr (by omega)
              omega
          refine Or.inl ⟨k1 + 1, cs, ⟨by omega, hk1, by omega⟩, fun h T hh => hT h T (by omega), fun D len X ν c q f m hD hX e5 hm => ?_, fun d len Y ν r a b e m B hd br s t v hhd hB hY e6 e67 e75 hM e76 e78 ⟨hm, hs, hbr, hts, hto⟩ h1 h2 => ?_⟩
          · obtain ⟨D, rfl⟩ : ∃ D', D = D' + 7 := ⟨D - 7, by omega⟩
            have U := hPC (D + 6) len X ν c q f m (by omega) hX e5 (by omega)
            have T := S_take hk1 (by omega) c41 (by decide) (D + 4) len hX ν c q (wrL f m (cs.map opc)) e5 (m + cs.length)
            rw [C1 D len X ν c q f m hX e5 hm, U]
            simp (disch := omega) only [B_X7_readCondition_56, zq41, T, B_X7_readCondition_68, zbi_some, zbl_some, zbv_some, zbi_none, zbl_none, zbv_none, zbi_ite, zbl_ite, zbv_ite, zbZ, zbO, zc_lt, zc_le, zc_ge, zc_gt, zc_eq, zk0, zk1, zk2, zk3, zk4, zk5, zk6, zk7, zk8, zk9, zk10, zk11, zk12, zk14, zk15, zk16, zk17, zk19, zk20, zk21, zk24, zk25, zk30, zk32, zk36, zk40, zk45, zk50, zk64, zk97, zk99, zk100, zk102, zk122, zk128, zk255, zk800, zk801, zk900, zk999, zk1000, zk1997, zk9999, zk10000, zk100000, zk99999, zk9999999, zk999999999, zk2147483647, zlc0, zlc1, zlc2, zlc3, zlc4, zlc23, zlc99, zlc100, zlc9999999, zlc999999999999, zlc1073741824, zi_neg, zi_add, zi_sub, zi_mul, zl_neg, zl_add, zl_sub, zl_mul, zi_toInt, zi_nat, zi_le, zi_lt, zi_eq, zl_le, zl_lt, zl_eq, zl_toInt, zl_of32, zi_of64, zi_div, zl_div, zmodI, ↓reduceIte, zTle, zFle, zTlt, zFlt, zTeq, zFeq, if_true, if_false, and_self, and_true, true_and, and_false, false_and, or_self, or_true, true_or, or_false, false_or, not_true_eq_false, not_false_eq_true, zcastA, zcastL, znatC, zab, Int.reduceAdd, Int.reduceSub, Int.reduceMul, Int.reduceNeg, Int.reduceToNat, Nat.reduceAdd]
          · obtain ⟨r1, v1, E1, a1, a2, a3, a4, a5⟩ := M1 d len Y ν r a b e br s v hY e6 hM e76 e78 (by omega)
            obtain ⟨r2, e2, v2, E2, b1, b2, b3, b4, b5, b6⟩ := hPM d len Y ν r1 a b (upd e s (zi 12)) m B hd (br + 1) (s + 1) v1 hhd hB hY (by rw [a5 6 (by decide) (by decide) (by decide) (by decide) (by decide) (by decide) (by decide)]; exact e6) (by rw [a5 67 (by decide) (by decide) (by decide) (by decide) (by decide) (by decide) (by decide)]; exact e67) (by rw [a2]; exact e75) a1 a3 a4 ⟨by omega, by omega, by omega⟩ (Or.inr (by rw [show s + 1 - 1 = s by omega, upd_eq]))
            have b3 : r2 76 = zi ((o : Int) + 1) := b3
            have b4 : r2 78 = zi ((s : Int) + 1) := b4
            have hM2 : MS pl nn ty va (upd (upd r2 78 (zi ((s : Int) + 1 - 1))) 76 (zi ((o : Int) + 1 - 1))) k1 := b1
            obtain ⟨r3, E3, d1, d2, d3, d4⟩ := F_settle (d + 5) len ν Y hhd hB 9 (by decide) t (upd (upd r2 78 (zi ((s : Int) + 1 - 1))) 76 (zi ((o : Int) + 1 - 1))) (wrL a (B + m) (cs.map opo)) (wrL b (B + m) (cs.map opa)) e2 (m + cs.length) s o (by omega) (by omega) hts (fun _ => hto) (by rw [upd_ne _ _ (by decide), upd_ne _ _ (by decide), b6 67 (by decide) (by decide) (by decide) (by decide) (by decide) (by decide) (by decide), a5 67 (by decide) (by decide) (by decide) (by decide) (by decide) (by decide) (by decide)]; exact e67) (by rw [upd_ne _ _ (by decide), upd_ne _ _ (by decide)]; exact b2) (by rw [upd_ne _ _ (by decide), upd_eq, show (s : Int) + 1 - 1 = (s : Int) by omega]) (by rw [upd_eq, show (o : Int) + 1 - 1 = (o : Int) by omega]) (fun i hi => by rw [b5 _ (by omega), upd_ne _ _ (by omega)]; exact h1 i hi) (by
              by_cases z : t = s
              · exact Or.inl z
              · right
                rcases h2 with q | q
                · exact absurd q z
                · rw [b5 _ (by omega), upd_ne _ _ (by omega)]
                  exact q)
            rw [wrL_cat _ a (B + m) (B + (m + cs.length)) cs _ (by omega), wrL_cat _ b (B + m) (B + (m + cs.length)) cs _ (by omega)] at E3
            have hM3 : MS pl nn ty va r3 k1 := MS_fr hM2 (fun i i7 i10 => d4 i (by omega) (by omega) (by omega))
            obtain ⟨r4, N, R1, R2⟩ := F_nextM S hL hg (d + 4) len Y ν r3 (wrL a (B + m) ((cs ++ List.replicate t ((9 : Int), (0 : Int))).map opo)) (wrL b (B + m) ((cs ++ List.replicate t ((9 : Int), (0 : Int))).map opa)) e2 hY (by rw [d4 6 (by decide) (by decide) (by decide), upd_ne _ _ (by decide), upd_ne _ _ (by decide), b6 6 (by decide) (by decide) (by decide) (by decide) (by decide) (by decide) (by decide), a5 6 (by decide) (by decide) (by decide) (by decide) (by decide) (by decide) (by decide)]; exact e6) hk1 hM3.1
            have s1 := M_sg S l2 b1 (d + 6) len Y ν (wrL a (B + m) (cs.map opo)) (wrL b (B + m) (cs.map opa)) e2 (c := 41) (by decide)
            rw [c41] at s1
            refine ⟨r4, e2, v2, E1.trans (E2.trans ?_), R1, by rw [R2 75 (by decide) (by decide) (by decide) (by decide)]; exact d1, by rw [R2 76 (by decide) (by decide) (by decide) (by decide), d3, if_pos rfl], by rw [R2 78 (by decide) (by decide) (by decide) (by decide)]; exact d2, fun i hi => by rw [b5 i (by omega), upd_ne _ _ (by omega)], fun i i7 i8 i9 i10 i75 i76 i78 => by rw [R2 i i7 i8 i9 i10, d4 i i75 i76 i78, upd_ne _ _ i76, upd_ne _ _ i78, b6 i i7 i8 i9 i10 i75 i76 i78, a5 i i7 i8 i9 i10 i75 i76 i78]⟩
            rw [B_X12_readAny_187]
            have cb : (br : Int) + 1 - 1 = (br : Int) := by omega
            simp (disch := omega) only [zq41, s1, zbT, B_X12_readAny_199, zrw_s, b3, b4, zup_zrw, E3, B_X12_readAny_238, N, B_X12_readAny_242, cb, zbi_some, zbl_some, zbv_some, zbi_none, zbl_none, zbv_none, zbi_ite, zbl_ite, zbv_ite, zbZ, zbO, zc_lt, zc_le, zc_ge, zc_gt, zc_eq, zk0, zk1, zk2, zk3, zk4, zk5, zk6, zk7, zk8, zk9, zk10, zk11, zk12, zk14, zk15, zk16, zk17, zk19, zk20, zk21, zk24, zk25, zk30, zk32, zk36, zk40, zk45, zk50, zk64, zk97, zk99, zk100, zk102, zk122, zk128, zk255, zk800, zk801, zk900, zk999, zk1000, zk1997, zk9999, zk10000, zk100000, zk99999, zk9999999, zk999999999, zk2147483647, zlc0, zlc1, zlc2, zlc3, zlc4, zlc23, zlc99, zlc100, zlc9999999, zlc999999999999, zlc1073741824, zi_neg, zi_add, zi_sub, zi_mul, zl_neg, zl_add, zl_sub, zl_mul, zi_toInt, zi_nat, zi_le, zi_lt, zi_eq, zl_le, zl_lt, zl_eq, zl_toInt, zl_of32, zi_of64, zi_div, zl_div, zmodI, ↓reduceIte, zTle, zFle, zTlt, zFlt, zTeq, zFeq, if_true, if_false, and_self, and_true, true_and, and_false, false_and, or_self, or_true, true_or, or_false, false_or, not_true_eq_false, not_false_eq_true, zcastA, zcastL, znatC, zab, Int.reduceAdd, Int.reduceSub, Int.reduceMul, Int.reduceNeg, Int.reduceToNat, Nat.reduceAdd]
        · refine Or.inr ⟨1, k1, fun D len X ν c q f m hD hX e5 hm => ?_, fun d len Y ν r a b e m B hd br s t v hhd hB hY e6 e67 e75 hM e76 e78 ⟨hm, hs, hbr, hts, hto⟩ h1 h2 => ?_⟩
          · obtain ⟨D, rfl⟩ : ∃ D', D = D' + 7 := ⟨D - 7, by omega⟩
            have U := hPC (D + 6) len X ν c q f m (by omega) hX e5 (by omega)
            have := xb k1 l2
            obtain ⟨c', q', f', T, T1⟩ := S_taken l2 (by omega) c41 ⟨by omega, by omega⟩ (by decide) (D + 4) len hX ν c q (wrL f m (cs.map opc)) (m + cs.length)
            refine ⟨c', q', f', ?_, T1⟩
            rw [C1 D len X ν c q f m hX e5 hm, U]
            simp (disch := omega) only [B_X7_readCondition_56, zq41, T, B_X7_readCondition_68, zbi_some, zbl_some, zbv_some, zbi_none, zbl_none, zbv_none, zbi_ite, zbl_ite, zbv_ite, zbZ, zbO, zc_lt, zc_le, zc_ge, zc_gt, zc_eq, zk0, zk1, zk2, zk3, zk4, zk5, zk6, zk7, zk8, zk9, zk10, zk11, zk12, zk14, zk15, zk16, zk17, zk19, zk20, zk21, zk24, zk25, zk30, zk32, zk36, zk40, zk45, zk50, zk64, zk97, zk99, zk100, zk102, zk122, zk128, zk255, zk800, zk801, zk900, zk999, zk1000, zk1997, zk9999, zk10000, zk100000, zk99999, zk9999999, zk999999999, zk2147483647, zlc0, zlc1, zlc2, zlc3, zlc4, zlc23, zlc99, zlc100, zlc9999999, zlc999999999999, zlc1073741824, zi_neg, zi_add, zi_sub, zi_mul, zl_neg, zl_add, zl_sub, zl_mul, zi_toInt, zi_nat, zi_le, zi_lt, zi_eq, zl_le, zl_lt, zl_eq, zl_toInt, zl_of32, zi_of64, zi_div, zl_div, zmodI, ↓reduceIte, zTle, zFle, zTlt, zFlt, zTeq, zFeq, if_true, if_false, and_self, and_true, true_and, and_false, false_and, or_self, or_true, true_or, or_false, false_or, not_true_eq_false, not_false_eq_true, zcastA, zcastL, znatC, zab, Int.reduceAdd, Int.reduceSub, Int.reduceMul, Int.reduceNeg, Int.reduceToNat, Nat.reduceAdd]
          · obtain ⟨r1, v1, E1, a1, a2, a3, a4, a5⟩ := M1 d len Y ν r a b e br s v hY e6 hM e76 e78 (by omega)
            obtain ⟨r2, e2, v2, E2, b1, b2, b3, b4, b5, b6⟩ := hPM d len Y ν r1 a b (upd e s (zi 12)) m B hd (br + 1) (s + 1) v1 hhd hB hY (by rw [a5 6 (by decide) (by decide) (by decide) (by decide) (by decide) (by decide) (by decide)]; exact e6) (by rw [a5 67 (by decide) (by decide) (by decide) (by decide) (by decide) (by decide) (by decide)]; exact e67) (by rw [a2]; exact e75) a1 a3 a4 ⟨by omega, by omega, by omega⟩ (Or.inr (by rw [show s + 1 - 1 = s by omega, upd_eq]))
            have s1 := M_sg S l2 b1 (d + 6) len Y ν (wrL a (B + m) (cs.map opo)) (wrL b (B + m) (cs.map opa)) e2 (c := 41) (by decide)
            obtain ⟨r3, N, P1, P2, P3⟩ := M_fails S b1 (d + 5) len Y ν (wrL a (B + m) (cs.map opo)) (wrL b (B + m) (cs.map opa)) e2 1
            refine ⟨r3, wrL a (B + m) (cs.map opo), wrL b (B + m) (cs.map opa), e2, E1.trans (E2.trans ?_), P1, P2, frM_tr (frM_r (fun i i7 i8 i9 i10 _ _ i75 i76 i78 => a5 i i7 i8 i9 i10 i75 i76 i78)) (frM_tr (frM_wR b6 (by rw [List.length_map]; omega) (by rw [List.length_map]; omega)) (frM_r (fun i i7 i8 i9 i10 i12 i13 _ _ _ => P3 i i12 i13)))⟩
            rw [B_X12_readAny_187]
            simp (disch := omega) only [zq41, s1, c41, zbF, B_X12_readAny_199, N, B_X12_readAny_207, zbi_some, zbl_some, zbv_some, zbi_none, zbl_none, zbv_none, zbi_ite, zbl_ite, zbv_ite, zbZ, zbO, zc_lt, zc_le, zc_ge, zc_gt, zc_eq, zk0, zk1, zk2, zk3, zk4, zk5, zk6, zk7, zk8, zk9, zk10, zk11, zk12, zk14, zk15, zk16, zk17, zk19, zk20, zk21, zk24, zk25, zk30, zk32, zk36, zk40, zk45, zk50, zk64, zk97, zk99, zk100, zk102, zk122, zk128, zk255, zk800, zk801, zk900, zk999, zk1000, zk1997, zk9999, zk10000, zk100000, zk99999, zk9999999, zk999999999, zk2147483647, zlc0, zlc1, zlc2, zlc3, zlc4, zlc23, zlc99, zlc100, zlc9999999, zlc999999999999, zlc1073741824, zi_neg, zi_add, zi_sub, zi_mul, zl_neg, zl_add, zl_sub, zl_mul, zi_toInt, zi_nat, zi_le, zi_lt, zi_eq, zl_le, zl_lt, zl_eq, zl_toInt, zl_of32, zi_of64, zi_div, zl_div, zmodI, ↓reduceIte, zTle, zFle, zTlt, zFlt, zTeq, zFeq, if_true, if_false, and_self, and_true, true_and, and_false, false_and, or_self, or_true, true_or, or_false, false_or, not_true_eq_false, not_false_eq_true, zcastA, zcastL, znatC, zab, Int.reduceAdd, Int.reduceSub, Int.reduceMul, Int.reduceNeg, Int.reduceToNat, Nat.reduceAdd]
      · refine Or.inr ⟨ft, kf, fun D len X ν c q f m hD hX e5 hm => ?_, fun d len Y ν r a b e m B hd br s t v hhd hB hY e6 e67 e75 hM e76 e78 ⟨hm, hs, hbr, hts, hto⟩ h1 h2 => ?_⟩
        · obtain ⟨D, rfl⟩ : ∃ D', D = D' + 7 := ⟨D - 7, by omega⟩
          obtain ⟨c', q', f', U, U1⟩ := hPC (D + 6) len X ν c q f m (by omega) hX e5 (by omega)
          refine ⟨c', q', f', ?_, U1⟩
          rw [C1 D len X ν c q f m hX e5 hm, U]
          simp (disch := omega) only [B_X7_readCondition_56, zbi_some, zbl_some, zbv_some, zbi_none, zbl_none, zbv_none, zbi_ite, zbl_ite, zbv_ite, zbZ, zbO, zc_lt, zc_le, zc_ge, zc_gt, zc_eq, zk0, zk1, zk2, zk3, zk4, zk5, zk6, zk7, zk8, zk9, zk10, zk11, zk12, zk14, zk15, zk16, zk17, zk19, zk20, zk21, zk24, zk25, zk30, zk32, zk36, zk40, zk45, zk50, zk64, zk97, zk99, zk100, zk102, zk122, zk128, zk255, zk800, zk801, zk900, zk999, zk1000, zk1997, zk9999, zk10000, zk100000, zk99999, zk9999999, zk999999999, zk2147483647, zlc0, zlc1, zlc2, zlc3, zlc4, zlc23, zlc99, zlc100, zlc9999999, zlc999999999999, zlc1073741824, zi_neg, zi_add, zi_sub, zi_mul, zl_neg, zl_add, zl_sub, zl_mul, zi_toInt, zi_nat, zi_le, zi_lt, zi_eq, zl_le, zl_lt, zl_eq, zl_toInt, zl_of32, zi_of64, zi_div, zl_div, zmodI, ↓reduceIte, zTle, zFle, zTlt, zFlt, zTeq, zFeq, if_true, if_false, and_self, and_true, true_and, and_false, false_and, or_self, or_true, true_or, or_false, false_or, not_true_eq_false, not_false_eq_true, zcastA, zcastL, znatC, zab, Int.reduceAdd, Int.reduceSub, Int.reduceMul, Int.reduceNeg, Int.reduceToNat, Nat.reduceAdd]
        · obtain ⟨r1, v1, E1, a1, a2, a3, a4, a5⟩ := M1 d len Y ν r a b e br s v hY e6 hM e76 e78 (by omega)
          obtain ⟨r2, a', b', e2, E2, b1, b2, b3⟩ := hPM d len Y ν r1 a b (upd e s (zi 12)) m B hd (br + 1) (s + 1) v1 hhd hB hY (by rw [a5 6 (by decide) (by decide) (by decide) (by decide) (by decide) (by decide) (by decide)]; exact e6) (by rw [a5 67 (by decide) (by decide) (by decide) (by decide) (by decide) (by decide) (by decide)]; exact e67) (by rw [a2]; exact e75) a1 a3 a4 ⟨by omega, by omega, by omega⟩ (Or.inr (by rw [show s + 1 - 1 = s by omega, upd_eq]))
          exact ⟨r2, a', b', e2, E1.trans E2, b1, b2, frM_tr (frM_r (fun i i7 i8 i9 i10 _ _ i75 i76 i78 => a5 i i7 i8 i9 i10 i75 i76 i78)) b3⟩
end CCS

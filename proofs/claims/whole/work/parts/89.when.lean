/-! RULES read: conditions, both sides -/
section WHEN
variable {g : Nat → Int} {L K : Nat} {pl nn : Nat → Nat} {ty va : Nat → Int}
theorem wl_ok (S : Strm g L K pl nn ty va) (hL : L ≤ 800) (hg : ∀ i, 0 ≤ g i ∧ g i ≤ 255) (o k0 : Nat) (ho : o ≤ 8) (HC : ∀ k, k0 < k → k ≤ K → CC g L K pl nn ty va o k) : ∀ n k : Nat, K - k ≤ n → k0 ≤ k → k ≤ K → ∀ ow, ow ≤ 1 → (∃ (k' : Nat) (cs : List (Int × Int)), (k ≤ k' ∧ k' ≤ K ∧ k + cs.length ≤ k' + ow) ∧ WLT o ow cs ∧ WLC K pl ty va o ow k k' cs ∧ WLM g L pl nn ty va o ow k k' cs) ∨ ∃ (ft : Int) (kf : Nat), WLCF K pl ty va o ow k kf ft ∧ WLMF g L pl nn ty va o ow k kf ft := by
  have hKL := S.2.1.2.2.2
  have z135 : (135 : Int32) = zi 135 := rfl
  have z13 : (13 : Int32) = zi 13 := rfl
  have zm135 : (-135 : Int32) = zi (-135) := rfl
  have zm136 : (-136 : Int32) = zi (-136) := rfl
  intro n
  induction n with
  | zero =>
    intro k hn hk0 hk ow hw
    have : k = K := by omega
    subst this
    have kz := (kd_c S hk).2.mpr rfl
    obtain ⟨A, B⟩ := wl_end S hL o ow k ho hw hk (by rw [kz]; decide) (by rw [kz]; decide)
    exact Or.inl ⟨k, _, ⟨Nat.le_refl _, Nat.le_refl _, by rw [List.length_replicate]; omega⟩, WLT_end ho hw, A, B⟩
  | succ n ih =>
    intro k hn hk0 hk ow hw
    by_cases hne : kd ty va k ≠ 135 ∧ kd ty va k ≠ 136
    · obtain ⟨A, B⟩ := wl_end S hL o ow k ho hw hk hne.1 hne.2
      exact Or.inl ⟨k, _, ⟨Nat.le_refl _, hk, by rw [List.length_replicate]; omega⟩, WLT_end ho hw, A, B⟩
    have hkK : k < K := by
      rcases Nat.lt_or_ge k K with z | z
      · exact z
      · have := (kd_c S hk).2.mpr (by omega)
        rw [this] at hne
        exact absurd ⟨by decide, by decide⟩ hne
    by_cases c136 : kd ty va k = 136
    · -- and
      have C1 : ∀ (D len : Nat) (X : zMu) (ν : zNu) (c q f : Nat → Int32) (m i : Nat) (v4 : Value), CcX K pl ty va X → c 5 = zi ((K : Int) + 1) → m + ow ≤ k → i + 1 ≤ k → zE zc_X7_readWhen (zF zT0 (D + 7)) 14 [.ref 57, .int (zi (o : Int)), .int (zi (ow : Int)), .int (zi (i : Int)), v4] [] (zm len (ST X c q k m f) ν) = zbi (zF zT0 (D + 7) 89 [.ref 57, .int (zi (o : Int))] (zm len (ST X c q (k + 1) m f) ν)) (fun w' M' => zE zc_X7_readWhen (zF zT0 (D + 7)) 100 [.ref 57, .int (zi (o : Int)), .int (zi (ow : Int)), .int (zi (i : Int)), .int (zi 0)] [.int w'] M') := fun D len X ν c q f m i v4 hX e5 hm hi => by
        have A := S_kind hk (by omega) (D + 6) len hX ν c q f m
        have E := S_move hkK (by omega) (D + 6) len X ν c q f e5 m
        rw [c136] at A
        have orr : zi (ow : Int) ||| zi 0 = zi (ow : Int) := by
          have : ow = 0 ∨ ow = 1 := by omega
          rcases this with z | z <;> subst z <;> decide
        rw [B_X7_readWhen_14]
        simp (disch := omega) only [A, z135, zq136, B_X7_readWhen_28, B_X7_readWhen_41, B_X7_readWhen_47, B_X7_readWhen_54, B_X7_readWhen_65, E, B_X7_readWhen_74, B_X7_readWhen_90, orr, zbi_some, zbl_some, zbv_some, zbi_none, zbl_none, zbv_none, zbi_ite, zbl_ite, zbv_ite, zbZ, zbO, zc_lt, zc_le, zc_ge, zc_gt, zc_eq, zk0, zk1, zk2, zk3, zk4, zk5, zk6, zk7, zk8, zk9, zk10, zk11, zk12, zk14, zk15, zk16, zk17, zk19, zk20, zk21, zk24, zk25, zk30, zk32, zk36, zk40, zk45, zk50, zk64, zk97, zk99, zk100, zk102, zk122, zk128, zk255, zk800, zk801, zk900, zk999, zk1000, zk1997, zk9999, zk10000, zk100000, zk99999, zk9999999, zk999999999, zk2147483647, zlc0, zlc1, zlc2, zlc3, zlc4, zlc23, zlc99, zlc100, zlc9999999, zlc999999999999, zlc1073741824, zi_neg, zi_add, zi_sub, zi_mul, zl_neg, zl_add, zl_sub, zl_mul, zi_toInt, zi_nat, zi_le, zi_lt, zi_eq, zl_le, zl_lt, zl_eq, zl_toInt, zl_of32, zi_of64, zi_div, zl_div, zmodI, ↓reduceIte, zTle, zFle, zTlt, zFlt, zTeq, zFeq, if_true, if_false, and_self, and_true, true_and, and_false, false_and, or_self, or_true, true_or, or_false, false_or, not_true_eq_false, not_false_eq_true, zcastA, zcastL, znatC, zab, Int.reduceAdd, Int.reduceSub, Int.reduceMul, Int.reduceNeg, Int.reduceToNat, Nat.reduceAdd]
      have M1 : ∀ (d len : Nat) (Y : zMu) (ν : zNu) (r a b e : Nat → Int32) (m B : Nat) (hd : Int) (br s ap : Nat) (v : Value), (0 ≤ hd ∧ hd ≤ 1) → (B : Int) = 800 * (1 - hd) → CcY g Y → r 6 = zi (L : Int) → r 67 = zi hd → r 75 = zi (m : Int) → MS pl nn ty va r k → r 76 = zi (o : Int) → r 78 = zi ((s + ow + ap : Nat) : Int) → (m + s + ow + ap ≤ k ∧ s ≤ 3 * o ∧ br ≤ o ∧ ap ≤ 1) → (s = 0 ∨ e (s - 1) = zi 12) → (ow = 1 → e s = zi 11) → (ap = 1 → e (s + ow) = zi 10) → ∃ (r' : Nat → Int32), zE zc_X12_readAny (zF zT0 (d + 7)) 9 [.ref 92, .int (zi (br : Int)), .int (zi 0), v] [] (zm len (Mm Y r a b e) ν) = zE zc_X12_readAny (zF zT0 (d + 7)) 9 [.ref 92, .int (zi (br : Int)), .int (zi 1), v] [] (zm len (Mm Y r' (wrL a (B + m) ((List.replicate ap ((10 : Int), (0 : Int))).map opo)) (wrL b (B + m) ((List.replicate ap ((10 : Int), (0 : Int))).map opa)) (upd e (s + ow) (zi 10))) ν) ∧ MS pl nn ty va r' (k + 1) ∧ r' 75 = zi ((m + ap : Nat) : Int) ∧ r' 76 = zi (o : Int) ∧ r' 78 = zi ((s + ow + 1 : Nat) : Int) ∧ frR r r' := fun d len Y ν r a b e m B hd br s ap v hhd hB hY e6 e67 e75 hM e76 e78 ⟨hm, hs, hbr, hap⟩ h0 h1 h2 => by
        obtain ⟨r1, E1, a1, a2, a3, a4⟩ := F_settle (d + 5) len ν Y hhd hB 10 (by decide) ap r a b e m (s + ow + ap) o (by omega) (by omega) (by omega) (fun q => by omega) e67 e75 e78 e76 (fun i hi => by
          have i0 : i = 0 := by omega
          have a1 : ap = 1 := by omega
          rw [i0, show s + ow + ap - 1 - 0 = s + ow by omega]
          exact h2 a1) (by
          by_cases z : s + ow = 0
          · exact Or.inl (by omega)
          · right
            rw [show s + ow + ap - 1 - ap = s + ow - 1 by omega]
            by_cases y : ow = 1
            · rw [y, show s + 1 - 1 = s by omega, h1 y]
              decide
            · rw [show s + ow - 1 = s - 1 by omega]
              rcases h0 with q | q
              · omega
              · rw [q]
                decide)
        have W := F_waits (d + 6) len ν Y r1 (wrL a (B + m) ((List.replicate ap ((10 : Int), (0 : Int))).map opo)) (wrL b (B + m) ((List.replicate ap ((10 : Int), (0 : Int))).map opa)) e (s := s + ow) (by omega) (by rw [a2, show s + ow + ap - ap = s + ow by omega]) (zi 10)
        have hM1 : MS pl nn ty va r1 k := MS_fr hM (fun i i7 i10 => a4 i (by omega) (by omega) (by omega))
        obtain ⟨r2, N, R1, R2⟩ := F_nextM S hL hg (d + 4) len Y ν (upd r1 78 (zi ((s : Int) + (ow : Int) + 1))) (wrL a (B + m) ((List.replicate ap ((10 : Int), (0 : Int))).map opo)) (wrL b (B + m) ((List.replicate ap ((10 : Int), (0 : Int))).map opa)) (upd e (s + ow) (zi 10)) hY (by rw [upd_ne _ _ (by decide), a4 6 (by decide) (by decide) (by decide)]; exact e6) hkK (by rw [upd_ne _ _ (by decide)]; exact hM1.1)
        have w1 := M_wd S hk hM (d + 6) len Y ν a b e (w := 14) 136 (by omega)
        rw [c136] at w1
        refine ⟨r2, ?_, R1, by rw [R2 75 (by decide) (by decide) (by decide) (by decide), upd_ne _ _ (by decide)]; exact a1, by rw [R2 76 (by decide) (by decide) (by decide) (by decide), upd_ne _ _ (by decide)]; exact a3, by rw [R2 78 (by decide) (by decide) (by decide) (by decide)]; rfl, fun i i7 i8 i9 i10 i75 i76 i78 => by rw [R2 i i7 i8 i9 i10, upd_ne _ _ i78, a4 i i75 i76 i78]⟩
        rw [B_X12_readAny_9]
        simp (disch := omega) only [w1, zbT, B_X12_readAny_115, E1, B_X12_readAny_124, W, B_X12_readAny_130, N, B_X12_readAny_134, zbi_some, zbl_some, zbv_some, zbi_none, zbl_none, zbv_none, zbi_ite, zbl_ite, zbv_ite, zbZ, zbO, zc_lt, zc_le, zc_ge, zc_gt, zc_eq, zk0, zk1, zk2, zk3, zk4, zk5, zk6, zk7, zk8, zk9, zk10, zk11, zk12, zk14, zk15, zk16, zk17, zk19, zk20, zk21, zk24, zk25, zk30, zk32, zk36, zk40, zk45, zk50, zk64, zk97, zk99, zk100, zk102, zk122, zk128, zk255, zk800, zk801, zk900, zk999, zk1000, zk1997, zk9999, zk10000, zk100000, zk99999, zk9999999, zk999999999, zk2147483647, zlc0, zlc1, zlc2, zlc3, zlc4, zlc23, zlc99, zlc100, zlc9999999, zlc999999999999, zlc1073741824, zi_neg, zi_add, zi_sub, zi_mul, zl_neg, zl_add, zl_sub, zl_mul, zi_toInt, zi_nat, zi_le, zi_lt, zi_eq, zl_le, zl_lt, zl_eq, zl_toInt, zl_of32, zi_of64, zi_div, zl_div, zmodI, ↓reduceIte, zTle, zFle, zTlt, zFlt, zTeq, zFeq, if_true, if_false, and_self, and_true, true_and, and_false, false_and, or_self, or_true, true_or, or_false, false_or, not_true_eq_false, not_false_eq_true, zcastA, zcastL, znatC, zab, Int.reduceAdd, Int.reduceSub, Int.reduceMul, Int.reduceNeg, Int.reduceToNat, Nat.reduceAdd]
      have oth : ∀ (s : Nat) (e : Nat → Int32), (upd e (s + ow) (zi 10)) (s + ow + 1 - 1 - 0) ≠ zi 9 := fun s e => by
        rw [show s + ow + 1 - 1 - 0 = s + ow by omega, upd_eq]
        decide
      rcases HC (k + 1) (by omega) hkK with ⟨k1, cs, ⟨l1, l2, l3⟩, hT, hPC, hPM⟩ | ⟨ft, kf, hPC, hPM⟩
      · have C2 : ∀ (D len : Nat) (X : zMu) (ν : zNu) (c q f : Nat → Int32) (m i : Nat) (v4 : Value), 2 * (8 - o) ≤ D → CcX K pl ty va X → c 5 = zi ((K : Int) + 1) → m + ow ≤ k → i + 1 ≤ k → zE zc_X7_readWhen (zF zT0 (D + 7)) 14 [.ref 57, .int (zi (o : Int)), .int (zi (ow : Int)), .int (zi (i : Int)), v4] [] (zm len (ST X c q k m f) ν) = zE zc_X7_readWhen (zF zT0 (D + 7)) 14 [.ref 57, .int (zi (o : Int)), .int (zi (ow : Int)), .int (zi ((i + 1 : Nat) : Int)), .int (zi 0)] [] (zm len (ST X c q k1 (m + cs.length + 1) (wrL (wrL f m (cs.map opc)) (m + cs.length) ([((10 : Int), (0 : Int))].map opc))) ν) := fun D len X ν c q f m i v4 hD hX e5 hm hi => by
          have U := hPC (D + 7) len X ν c q f m (by omega) hX e5 (by omega)
          have W := S_write (D + 6) len X ν c q (wrL f m (cs.map opc)) (k := k1) (m := m + cs.length) (by omega) (zi (-136))
          rw [C1 D len X ν c q f m i v4 hX e5 hm hi, U]
          simp (disch := omega) only [B_X7_readWhen_100, zm136, W, B_X7_readWhen_117, zbi_some, zbl_some, zbv_some, zbi_none, zbl_none, zbv_none, zbi_ite, zbl_ite, zbv_ite, zbZ, zbO, zc_lt, zc_le, zc_ge, zc_gt, zc_eq, zk0, zk1, zk2, zk3, zk4, zk5, zk6, zk7, zk8, zk9, zk10, zk11, zk12, zk14, zk15, zk16, zk17, zk19, zk20, zk21, zk24, zk25, zk30, zk32, zk36, zk40, zk45, zk50, zk64, zk97, zk99, zk100, zk102, zk122, zk128, zk255, zk800, zk801, zk900, zk999, zk1000, zk1997, zk9999, zk10000, zk100000, zk99999, zk9999999, zk999999999, zk2147483647, zlc0, zlc1, zlc2, zlc3, zlc4, zlc23, zlc99, zlc100, zlc9999999, zlc999999999999, zlc1073741824, zi_neg, zi_add, zi_sub, zi_mul, zl_neg, zl_add, zl_sub, zl_mul, zi_toInt, zi_nat, zi_le, zi_lt, zi_eq, zl_le, zl_lt, zl_eq, zl_toInt, zl_of32, zi_of64, zi_div, zl_div, zmodI, ↓reduceIte, zTle, zFle, zTlt, zFlt, zTeq, zFeq, if_true, if_false, and_self, and_true, true_and, and_false, false_and, or_self, or_true, true_or, or_false, false_or, not_true_eq_false, not_false_eq_true, zcastA, zcastL, znatC, zab, Int.reduceAdd, Int.reduceSub, Int.reduceMul, Int.reduceNeg, Int.reduceToNat, Nat.reduceAdd]
          rfl
        have M2 : ∀ (d len : Nat) (Y : zMu) (ν : zNu) (r a b e : Nat → Int32) (m B : Nat) (hd : Int) (br s ap : Nat) (v : Value), (0 ≤ hd ∧ hd ≤ 1) → (B : Int) = 800 * (1 - hd) → CcY g Y → r 6 = zi (L : Int) → r 67 = zi hd → r 75 = zi (m : Int) → MS pl nn ty va r k → r 76 = zi (o : Int) → r 78 = zi ((s + ow + ap : Nat) : Int) → (m + s + ow + ap ≤ k ∧ s ≤ 3 * o ∧ br ≤ o ∧ ap ≤ 1) → (s = 0 ∨ e (s - 1) = zi 12) → (ow = 1 → e s = zi 11) → (ap = 1 → e (s + ow) = zi 10) → ∃ (r' e' : Nat → Int32) (v' : Value), zE zc_X12_readAny (zF zT0 (d + 7)) 9 [.ref 92, .int (zi (br : Int)), .int (zi 0), v] [] (zm len (Mm Y r a b e) ν) = zE zc_X12_readAny (zF zT0 (d + 7)) 9 [.ref 92, .int (zi (br : Int)), .int (zi 0), v'] [] (zm len (Mm Y r' (wrL a (B + m) ((List.replicate ap ((10 : Int), (0 : Int)) ++ cs).map opo)) (wrL b (B + m) ((List.replicate ap ((10 : Int), (0 : Int)) ++ cs).map opa)) e') ν) ∧ MS pl nn ty va r' k1 ∧ r' 75 = zi ((m + ap + cs.length : Nat) : Int) ∧ r' 76 = zi (o : Int) ∧ r' 78 = zi ((s + ow + 1 : Nat) : Int) ∧ (∀ i, i < s + ow → e' i = e i) ∧ e' (s + ow) = zi 10 ∧ frR r r' := fun d len Y ν r a b e m B hd br s ap v hhd hB hY e6 e67 e75 hM e76 e78 hh h0 h1 h2 => by
          obtain ⟨r1, E1, a1, a2, a3, a4, a5⟩ := M1 d len Y ν r a b e m B hd br s ap v hhd hB hY e6 e67 e75 hM e76 e78 hh h0 h1 h2
          obtain ⟨hm, hs, hbr, hap⟩ := hh
          obtain ⟨r2, e2, v2, E2, b1, b2, b3, b4, b5, b6⟩ := hPM d len Y ν r1 (wrL a (B + m) ((List.replicate ap ((10 : Int), (0 : Int))).map opo)) (wrL b (B + m) ((List.replicate ap ((10 : Int), (0 : Int))).map opa)) (upd e (s + ow) (zi 10)) (m + ap) B hd br (s + ow + 1) 0 v hhd hB hY (by rw [a5 6 (by decide) (by decide) (by decide) (by decide) (by decide) (by decide) (by decide)]; exact e6) (by rw [a5 67 (by decide) (by decide) (by decide) (by decide) (by decide) (by decide) (by decide)]; exact e67) a2 a1 a3 a4 ⟨by omega, by omega, hbr, by omega, by omega⟩ (fun i hi => by omega) (Or.inr (oth s e))
          refine ⟨r2, e2, v2, E1.trans (E2.trans ?_), b1, b2, b3, b4, fun i hi => by rw [b5 i (by omega), upd_ne _ _ (by omega)], by rw [b5 _ (by omega), upd_eq], fun i i7 i8 i9 i10 i75 i76 i78 => by rw [b6 i i7 i8 i9 i10 i75 i76 i78, a5 i i7 i8 i9 i10 i75 i76 i78]⟩
          rw [show cs ++ List.replicate 0 ((9 : Int), (0 : Int)) = cs by simp, wrL_cat _ a (B + m) (B + (m + ap)) (List.replicate ap ((10 : Int), (0 : Int))) cs (by rw [List.length_replicate]; omega), wrL_cat _ b (B + m) (B + (m + ap)) (List.replicate ap ((10 : Int), (0 : Int))) cs (by rw [List.length_replicate]; omega)]
        rcases ih k1 (by omega) (by omega) l2 ow hw with ⟨k2, rest, ⟨j1, j2, j3⟩, hTr, hRC, hRM⟩ | ⟨ft, kf, hRC, hRM⟩
        · refine Or.inl ⟨k2, cs ++ ((10, 0) :: rest), ⟨by omega, j2, by simp only [List.length_append, List.length_cons]; omega⟩, WLT_and ho hw hT hTr, fun D len X ν c q f m i v4 hD hX e5 hm hi => ?_, fun d len Y ν r a b e m B hd br s ap v hhd hB hY e6 e67 e75 hM e76 e78 hh h0 h1 h2 => ?_⟩
          · obtain ⟨D, rfl⟩ : ∃ D', D = D' + 7 := ⟨D - 7, by omega⟩
            have E2 := hRC (D + 7) len X ν c q (wrL (wrL f m (cs.map opc)) (m + cs.length) ([((10 : Int), (0 : Int))].map opc)) (m + cs.length + 1) (i + 1) (.int (zi 0)) hD hX e5 (by omega) (by omega)
            refine (C2 D len X ν c q f m i v4 (by omega) hX e5 hm hi).trans (E2.trans ?_)
            rw [wrL_cat _ (wrL f m (cs.map opc)) (m + cs.length) (m + cs.length + 1) [((10 : Int), (0 : Int))] rest rfl, wrL_cat _ f m (m + cs.length) cs _ rfl, show m + cs.length + 1 + rest.length = m + (cs ++ (((10 : Int), (0 : Int)) :: rest)).length by simp only [List.length_append, List.length_cons]; omega]
            rfl
          · obtain ⟨r1, e1, v1, E1, a1, a2, a3, a4, a5, a6, a7⟩ := M2 d len Y ν r a b e m B hd br s ap v hhd hB hY e6 e67 e75 hM e76 e78 hh h0 h1 h2
            obtain ⟨hm, hs, hbr, hap⟩ := hh
            obtain ⟨r2, e2, v2, E2, b1, b2, b3, b4, b5, b6⟩ := hRM d len Y ν r1 (wrL a (B + m) ((List.replicate ap ((10 : Int), (0 : Int)) ++ cs).map opo)) (wrL b (B + m) ((List.replicate ap ((10 : Int), (0 : Int)) ++ cs).map opa)) e1 (m + ap + cs.length) B hd br s 1 v1 hhd hB hY (by rw [a7 6 (by decide) (by decide) (by decide) (by decide) (by decide) (by decide) (by decide)]; exact e6) (by rw [a7 67 (by decide) (by decide) (by decide) (by decide) (by decide) (by decide) (by decide)]; exact e67) a2 a1 a3 a4 ⟨by omega, hs, hbr, by omega⟩ (by
              rcases h0 with q | q
              · exact Or.inl q
              · by_cases z : s = 0
                · exact Or.inl z
                · exact Or.inr (by rw [a5 _ (by omega)]; exact q)) (fun w => by rw [a5 _ (by omega)]; exact h1 w) (fun _ => a6)
            refine ⟨r2, e2, v2, E1.trans (E2.trans ?_), b1, ?_, b3, b4, fun i hi => by rw [b5 i hi, a5 i (by omega)], fun i i7 i8 i9 i10 i75 i76 i78 => by rw [b6 i i7 i8 i9 i10 i75 i76 i78, a7 i i7 i8 i9 i10 i75 i76 i78]⟩
            · rw [wrL_cat _ a (B + m) (B + (m + ap + cs.length)) (List.replicate ap ((10 : Int), (0 : Int)) ++ cs) _ (by rw [List.length_append, List.length_replicate]; omega), wrL_cat _ b (B + m) (B + (m + ap + cs.length)) (List.replicate ap ((10 : Int), (0 : Int)) ++ cs) _ (by rw [List.length_append, List.length_replicate]; omega), List.append_assoc]
              rfl
            · rw [b2, show m + ap + cs.length + 1 + rest.length = m + ap + (cs ++ (((10 : Int), (0 : Int)) :: rest)).length by simp only [List.length_append, List.length_cons]; omega]
        · refine Or.inr ⟨ft, kf, fun D len X ν c q f m i v4 hD hX e5 hm hi => ?_, fun d len Y ν r a b e m B hd br s ap v hhd hB hY e6 e67 e75 hM e76 e78 hh h0 h1 h2 => ?_⟩
          · obtain ⟨D, rfl⟩ : ∃ D', D = D' + 7 := ⟨D - 7, by omega⟩
            obtain ⟨c', q', f', E2, E3⟩ := hRC (D + 7) len X ν c q (wrL (wrL f m (cs.map opc)) (m + cs.length) ([((10 : Int), (0 : Int))].map opc)) (m + cs.length + 1) (i + 1) (.int (zi 0)) hD hX e5 (by omega) (by omega)
            exact ⟨c', q', f', (C2 D len X ν c q f m i v4 (by omega) hX e5 hm hi).trans E2, E3⟩
          · obtain ⟨r1, e1, v1, E1, a1, a2, a3, a4, a5, a6, a7⟩ := M2 d len Y ν r a b e m B hd br s ap v hhd hB hY e6 e67 e75 hM e76 e78 hh h0 h1 h2
            obtain ⟨hm, hs, hbr, hap⟩ := hh
            obtain ⟨r2, a', b', e2, E2, b1, b2, b3⟩ := hRM d len Y ν r1 (wrL a (B + m) ((List.replicate ap ((10 : Int), (0 : Int)) ++ cs).map opo)) (wrL b (B + m) ((List.replicate ap ((10 : Int), (0 : Int)) ++ cs).map opa)) e1 (m + ap + cs.length) B hd br s 1 v1 hhd hB hY (by rw [a7 6 (by decide) (by decide) (by decide) (by decide) (by decide) (by decide) (by decide)]; exact e6) (by rw [a7 67 (by decide) (by decide) (by decide) (by decide) (by decide) (by decide) (by decide)]; exact e67) a2 a1 a3 a4 ⟨by omega, hs, hbr, by omega⟩ (by
              rcases h0 with q | q
              · exact Or.inl q
              · by_cases z : s = 0
                · exact Or.inl z
                · exact Or.inr (by rw [a5 _ (by omega)]; exact q)) (fun w => by rw [a5 _ (by omega)]; exact h1 w) (fun _ => a6)
            exact ⟨r2, a', b', e2, E1.trans E2, b1, b2, frM_tr (frM_wR a7 (by rw [List.length_map, List.length_append, List.length_replicate]; omega) (by rw [List.length_map, List.length_append, List.length_replicate]; omega)) b3⟩
      · refine Or.inr ⟨ft, kf, fun D len X ν c q f m i v4 hD hX e5 hm hi => ?_, fun d len Y ν r a b e m B hd br s ap v hhd hB hY e6 e67 e75 hM e76 e78 hh h0 h1 h2 => ?_⟩
        · obtain ⟨D, rfl⟩ : ∃ D', D = D' + 7 := ⟨D - 7, by omega⟩
          obtain ⟨c', q', f', U, U1⟩ := hPC (D + 7) len X ν c q f m (by omega) hX e5 (by omega)
          refine ⟨c', q', f', ?_, U1⟩
          rw [C1 D len X ν c q f m i v4 hX e5 hm hi, U]
          simp (disch := omega) only [B_X7_readWhen_100, zbi_some, zbl_some, zbv_some, zbi_none, zbl_none, zbv_none, zbi_ite, zbl_ite, zbv_ite, zbZ, zbO, zc_lt, zc_le, zc_ge, zc_gt, zc_eq, zk0, zk1, zk2, zk3, zk4, zk5, zk6, zk7, zk8, zk9, zk10, zk11, zk12, zk14, zk15, zk16, zk17, zk19, zk20, zk21, zk24, zk25, zk30, zk32, zk36, zk40, zk45, zk50, zk64, zk97, zk99, zk100, zk102, zk122, zk128, zk255, zk800, zk801, zk900, zk999, zk1000, zk1997, zk9999, zk10000, zk100000, zk99999, zk9999999, zk999999999, zk2147483647, zlc0, zlc1, zlc2, zlc3, zlc4, zlc23, zlc99, zlc100, zlc9999999, zlc999999999999, zlc1073741824, zi_neg, zi_add, zi_sub, zi_mul, zl_neg, zl_add, zl_sub, zl_mul, zi_toInt, zi_nat, zi_le, zi_lt, zi_eq, zl_le, zl_lt, zl_eq, zl_toInt, zl_of32, zi_of64, zi_div, zl_div, zmodI, ↓reduceIte, zTle, zFle, zTlt, zFlt, zTeq, zFeq, if_true, if_false, and_self, and_true, true_and, and_false, false_and, or_self, or_true, true_or, or_false, false_or, not_true_eq_false, not_false_eq_true, zcastA, zcastL, znatC, zab, Int.reduceAdd, Int.reduceSub, Int.reduceMul, Int.reduceNeg, Int.reduceToNat, Nat.reduceAdd]
        · obtain ⟨r1, E1, a1, a2, a3, a4, a5⟩ := M1 d len Y ν r a b e m B hd br s ap v hhd hB hY e6 e67 e75 hM e76 e78 hh h0 h1 h2
          obtain ⟨hm, hs, hbr, hap⟩ := hh
          obtain ⟨r2, a', b', e2, E2, b1, b2, b3⟩ := hPM d len Y ν r1 (wrL a (B + m) ((List.replicate ap ((10 : Int), (0 : Int))).map opo)) (wrL b (B + m) ((List.replicate ap ((10 : Int), (0 : Int))).map opa)) (upd e (s + ow) (zi 10)) (m + ap) B hd br (s + ow + 1) 0 v hhd hB hY (by rw [a5 6 (by decide) (by decide) (by decide) (by decide) (by decide) (by decide) (by decide)]; exact e6) (by rw [a5 67 (by decide) (by decide) (by decide) (by decide) (by decide) (by decide) (by decide)]; exact e67) a2 a1 a3 a4 ⟨by omega, by omega, hbr, by omega, by omega⟩ (fun i hi => by omega) (Or.inr (oth s e))
          exact ⟨r2, a', b', e2, E1.trans E2, b1, b2, frM_tr (frM_wR a5 (by rw [List.length_map, List.length_replicate]; omega) (by rw [List.length_map, List.length_replicate]; omega)) b3⟩
    · -- or
      have c135 : kd ty va k = 135 := by
        by_cases z : kd ty va k = 135
        · exact z
        · exact absurd ⟨z, c136⟩ hne
      have C1 : ∀ (D len : Nat) (X : zMu) (ν : zNu) (c q f : Nat → Int32) (m i : Nat) (v4 : Value), CcX K pl ty va X → c 5 = zi ((K : Int) + 1) → m + ow ≤ k → i + 1 ≤ k → zE zc_X7_readWhen (zF zT0 (D + 7)) 14 [.ref 57, .int (zi (o : Int)), .int (zi (ow : Int)), .int (zi (i : Int)), v4] [] (zm len (ST X c q k m f) ν) = zbi (zF zT0 (D + 7) 89 [.ref 57, .int (zi (o : Int))] (zm len (ST X c q (k + 1) (m + ow) (wrL f m ((List.replicate ow ((11 : Int), (0 : Int))).map opc))) ν)) (fun w' M' => zE zc_X7_readWhen (zF zT0 (D + 7)) 100 [.ref 57, .int (zi (o : Int)), .int (zi 1), .int (zi (i : Int)), .int (zi 1)] [.int w'] M') := fun D len X ν c q f m i v4 hX e5 hm hi => by
        have A := S_kind hk (by omega) (D + 6) len hX ν c q f m
        have E := S_move hkK (by omega) (D + 6) len X ν c q f e5 m
        rw [c135] at A
        rw [B_X7_readWhen_14]
        have : ow = 0 ∨ ow = 1 := by omega
        rcases this with z | z <;> subst z
        · have orr : zi 0 ||| zi 1 = zi 1 := by decide
          simp (disch := omega) only [A, z135, zq136, B_X7_readWhen_28, B_X7_readWhen_47, B_X7_readWhen_54, B_X7_readWhen_65, E, B_X7_readWhen_74, B_X7_readWhen_90, orr, zbi_some, zbl_some, zbv_some, zbi_none, zbl_none, zbv_none, zbi_ite, zbl_ite, zbv_ite, zbZ, zbO, zc_lt, zc_le, zc_ge, zc_gt, zc_eq, zk0, zk1, zk2, zk3, zk4, zk5, zk6, zk7, zk8, zk9, zk10, zk11, zk12, zk14, zk15, zk16, zk17, zk19, zk20, zk21, zk24, zk25, zk30, zk32, zk36, zk40, zk45, zk50, zk64, zk97, zk99, zk100, zk102, zk122, zk128, zk255, zk800, zk801, zk900, zk999, zk1000, zk1997, zk9999, zk10000, zk100000, zk99999, zk9999999, zk999999999, zk2147483647, zlc0, zlc1, zlc2, zlc3, zlc4, zlc23, zlc99, zlc100, zlc9999999, zlc999999999999, zlc1073741824, zi_neg, zi_add, zi_sub, zi_mul, zl_neg, zl_add, zl_sub, zl_mul, zi_toInt, zi_nat, zi_le, zi_lt, zi_eq, zl_le, zl_lt, zl_eq, zl_toInt, zl_of32, zi_of64, zi_div, zl_div, zmodI, ↓reduceIte, zTle, zFle, zTlt, zFlt, zTeq, zFeq, if_true, if_false, and_self, and_true, true_and, and_false, false_and, or_self, or_true, true_or, or_false, false_or, not_true_eq_false, not_false_eq_true, zcastA, zcastL, znatC, zab, Int.reduceAdd, Int.reduceSub, Int.reduceMul, Int.reduceNeg, Int.reduceToNat, Nat.reduceAdd]
          rfl
        · have orr : zi 1 ||| zi 1 = zi 1 := by decide
          have W := S_write (D + 6) len X ν c q f (k := k + 1) (m := m) (by omega) (zi (-135))
          simp (disch := omega) only [A, z135, zq136, B_X7_readWhen_28, B_X7_readWhen_47, B_X7_readWhen_54, B_X7_readWhen_65, E, B_X7_readWhen_74, zm135, W, B_X7_readWhen_90, orr, zbi_some, zbl_some, zbv_some, zbi_none, zbl_none, zbv_none, zbi_ite, zbl_ite, zbv_ite, zbZ, zbO, zc_lt, zc_le, zc_ge, zc_gt, zc_eq, zk0, zk1, zk2, zk3, zk4, zk5, zk6, zk7, zk8, zk9, zk10, zk11, zk12, zk14, zk15, zk16, zk17, zk19, zk20, zk21, zk24, zk25, zk30, zk32, zk36, zk40, zk45, zk50, zk64, zk97, zk99, zk100, zk102, zk122, zk128, zk255, zk800, zk801, zk900, zk999, zk1000, zk1997, zk9999, zk10000, zk100000, zk99999, zk9999999, zk999999999, zk2147483647, zlc0, zlc1, zlc2, zlc3, zlc4, zlc23, zlc99, zlc100, zlc9999999, zlc999999999999, zlc1073741824, zi_neg, zi_add, zi_sub, zi_mul, zl_neg, zl_add, zl_sub, zl_mul, zi_toInt, zi_nat, zi_le, zi_lt, zi_eq, zl_le, zl_lt, zl_eq, zl_toInt, zl_of32, zi_of64, zi_div, zl_div, zmodI, ↓reduceIte, zTle, zFle, zTlt, zFlt, zTeq, zFeq, if_true, if_false, and_self, and_true, true_and, and_false, false_and, or_self, or_true, true_or, or_false, false_or, not_true_eq_false, not_false_eq_true, zcastA, zcastL, znatC, zab, Int.reduceAdd, Int.reduceSub, Int.reduceMul, Int.reduceNeg, Int.reduceToNat, Nat.reduceAdd]
          rfl
      have M1 : ∀ (d len : Nat) (Y : zMu) (ν : zNu) (r a b e : Nat → Int32) (m B : Nat) (hd : Int) (br s ap : Nat) (v : Value), (0 ≤ hd ∧ hd ≤ 1) → (B : Int) = 800 * (1 - hd) → CcY g Y → r 6 = zi (L : Int) → r 67 = zi hd → r 75 = zi (m : Int) → MS pl nn ty va r k → r 76 = zi (o : Int) → r 78 = zi ((s + ow + ap : Nat) : Int) → (m + s + ow + ap ≤ k ∧ s ≤ 3 * o ∧ br ≤ o ∧ ap ≤ 1) → (s = 0 ∨ e (s - 1) = zi 12) → (ow = 1 → e s = zi 11) → (ap = 1 → e (s + ow) = zi 10) → ∃ (r' : Nat → Int32), zE zc_X12_readAny (zF zT0 (d + 7)) 9 [.ref 92, .int (zi (br : Int)), .int (zi 0), v] [] (zm len (Mm Y r a b e) ν) = zE zc_X12_readAny (zF zT0 (d + 7)) 9 [.ref 92, .int (zi (br : Int)), .int (zi 1), v] [] (zm len (Mm Y r' (wrL a (B + m) ((List.replicate ap ((10 : Int), (0 : Int)) ++ List.replicate ow ((11 : Int), (0 : Int))).map opo)) (wrL b (B + m) ((List.replicate ap ((10 : Int), (0 : Int)) ++ List.replicate ow ((11 : Int), (0 : Int))).map opa)) (upd e s (zi 11))) ν) ∧ MS pl nn ty va r' (k + 1) ∧ r' 75 = zi ((m + ap + ow : Nat) : Int) ∧ r' 76 = zi (o : Int) ∧ r' 78 = zi ((s + 1 : Nat) : Int) ∧ frR r r' := fun d len Y ν r a b e m B hd br s ap v hhd hB hY e6 e67 e75 hM e76 e78 ⟨hm, hs, hbr, hap⟩ h0 h1 h2 => by
        obtain ⟨r1, E1, a1, a2, a3, a4⟩ := F_settle (d + 5) len ν Y hhd hB 10 (by decide) ap r a b e m (s + ow + ap) o (by omega) (by omega) (by omega) (fun q => by omega) e67 e75 e78 e76 (fun i hi => by
          have i0 : i = 0 := by omega
          have a1 : ap = 1 := by omega
          rw [i0, show s + ow + ap - 1 - 0 = s + ow by omega]
          exact h2 a1) (by
          by_cases z : s + ow = 0
          · exact Or.inl (by omega)
          · right
            rw [show s + ow + ap - 1 - ap = s + ow - 1 by omega]
            by_cases y : ow = 1
            · rw [y, show s + 1 - 1 = s by omega, h1 y]
              decide
            · rw [show s + ow - 1 = s - 1 by omega]
              rcases h0 with q | q
              · omega
              · rw [q]
                decide)
        obtain ⟨r2, E2, b1, b2, b3, b4⟩ := F_settle (d + 5) len ν Y hhd hB 11 (by decide) ow r1 (wrL a (B + m) ((List.replicate ap ((10 : Int), (0 : Int))).map opo)) (wrL b (B + m) ((List.replicate ap ((10 : Int), (0 : Int))).map opa)) e (m + ap) (s + ow) o (by omega) (by omega) (by omega) (fun q => by omega) (by rw [a4 67 (by decide) (by decide) (by decide)]; exact e67) a1 (by rw [a2, show s + ow + ap - ap = s + ow by omega]) a3 (fun i hi => by
          have i0 : i = 0 := by omega
          have w1 : ow = 1 := by omega
          rw [i0, show s + ow - 1 - 0 = s by omega]
          exact h1 w1) (by
          by_cases z : s = 0
          · exact Or.inl (by omega)
          · right
            rw [show s + ow - 1 - ow = s - 1 by omega]
            rcases h0 with q | q
            · omega
            · rw [q]
              decide)
        rw [wrL_cat _ a (B + m) (B + (m + ap)) (List.replicate ap ((10 : Int), (0 : Int))) (List.replicate ow ((11 : Int), (0 : Int))) (by rw [List.length_replicate]; omega), wrL_cat _ b (B + m) (B + (m + ap)) (List.replicate ap ((10 : Int), (0 : Int))) (List.replicate ow ((11 : Int), (0 : Int))) (by rw [List.length_replicate]; omega)] at E2
        have W := F_waits (d + 6) len ν Y r2 (wrL a (B + m) ((List.replicate ap ((10 : Int), (0 : Int)) ++ List.replicate ow ((11 : Int), (0 : Int))).map opo)) (wrL b (B + m) ((List.replicate ap ((10 : Int), (0 : Int)) ++ List.replicate ow ((11 : Int), (0 : Int))).map opa)) e (s := s) (by omega) (by rw [b2, show s + ow - ow = s by omega]) (zi 11)
        have hM2 : MS pl nn ty va r2 k := MS_fr hM (fun i i7 i10 => by rw [b4 i (by omega) (by omega) (by omega), a4 i (by omega) (by omega) (by omega)])
        obtain ⟨r3, N, R1, R2⟩ := F_nextM S hL hg (d + 4) len Y ν (upd r2 78 (zi ((s : Int) + 1))) (wrL a (B + m) ((List.replicate ap ((10 : Int), (0 : Int)) ++ List.replicate ow ((11 : Int), (0 : Int))).map opo)) (wrL b (B + m) ((List.replicate ap ((10 : Int), (0 : Int)) ++ List.replicate ow ((11 : Int), (0 : Int))).map opa)) (upd e s (zi 11)) hY (by rw [upd_ne _ _ (by decide), b4 6 (by decide) (by decide) (by decide), a4 6 (by decide) (by decide) (by decide)]; exact e6) hkK (by rw [upd_ne _ _ (by decide)]; exact hM2.1)
        have w1 := M_wd S hk hM (d + 6) len Y ν a b e (w := 14) 136 (by omega)
        have w2 := M_wd S hk hM (d + 6) len Y ν a b e (w := 13) 135 (by omega)
        rw [c135] at w1 w2
        refine ⟨r3, ?_, R1, by rw [R2 75 (by decide) (by decide) (by decide) (by decide), upd_ne _ _ (by decide)]; exact b1, by rw [R2 76 (by decide) (by decide) (by decide) (by decide), upd_ne _ _ (by decide)]; exact b3, by rw [R2 78 (by decide) (by decide) (by decide) (by decide)]; rfl, fun i i7 i8 i9 i10 i75 i76 i78 => by rw [R2 i i7 i8 i9 i10, upd_ne _ _ i78, b4 i i75 i76 i78, a4 i i75 i76 i78]⟩
        rw [B_X12_readAny_9]
        simp (disch := omega) only [w1, w2, z13, zbT, zbF, B_X12_readAny_115, B_X12_readAny_145, E1, B_X12_readAny_154, E2, B_X12_readAny_160, W, B_X12_readAny_166, N, B_X12_readAny_170, zbi_some, zbl_some, zbv_some, zbi_none, zbl_none, zbv_none, zbi_ite, zbl_ite, zbv_ite, zbZ, zbO, zc_lt, zc_le, zc_ge, zc_gt, zc_eq, zk0, zk1, zk2, zk3, zk4, zk5, zk6, zk7, zk8, zk9, zk10, zk11, zk12, zk14, zk15, zk16, zk17, zk19, zk20, zk21, zk24, zk25, zk30, zk32, zk36, zk40, zk45, zk50, zk64, zk97, zk99, zk100, zk102, zk122, zk128, zk255, zk800, zk801, zk900, zk999, zk1000, zk1997, zk9999, zk10000, zk100000, zk99999, zk9999999, zk999999999, zk2147483647, zlc0, zlc1, zlc2, zlc3, zlc4, zlc23, zlc99, zlc100, zlc9999999, zlc999999999999, zlc1073741824, zi_neg, zi_add, zi_sub, zi_mul, zl_neg, zl_add, zl_sub, zl_mul, zi_toInt, zi_nat, zi_le, zi_lt, zi_eq, zl_le, zl_lt, zl_eq, zl_toInt, zl_of32, zi_of64, zi_div, zl_div, zmodI, ↓reduceIte, zTle, zFle, zTlt, zFlt, zTeq, zFeq, if_true, if_false, and_self, and_true, true_and, and_false, false_and, or_self, or_true, true_or, or_false, false_or, not_true_eq_false, not_false_eq_true, zcastA, zcastL, znatC, zab, Int.reduceAdd, Int.reduceSub, Int.reduceMul, Int.reduceNeg, Int.reduceToNat, Nat.reduceAdd]
      have oth : ∀ (s : Nat) (e : Nat → Int32), (upd e s (zi 11)) (s + 1 - 1 - 0) ≠ zi 9 := fun s e => by
        rw [show s + 1 - 1 - 0 = s by omega, upd_eq]
        decide
      rcases HC (k + 1) (by omega) hkK with ⟨k1, cs, ⟨l1, l2, l3⟩, hT, hPC, hPM⟩ | ⟨ft, kf, hPC, hPM⟩
      · have C2 : ∀ (D len : Nat) (X : zMu) (ν : zNu) (c q f : Nat → Int32) (m i : Nat) (v4 : Value), 2 * (8 - o) ≤ D → CcX K pl ty va X → c 5 = zi ((K : Int) + 1) → m + ow ≤ k → i + 1 ≤ k → zE zc_X7_readWhen (zF zT0 (D + 7)) 14 [.ref 57, .int (zi (o : Int)), .int (zi (ow : Int)), .int (zi (i : Int)), v4] [] (zm len (ST X c q k m f) ν) = zE zc_X7_readWhen (zF zT0 (D + 7)) 14 [.ref 57, .int (zi (o : Int)), .int (zi ((1 : Nat) : Int)), .int (zi ((i + 1 : Nat) : Int)), .int (zi 1)] [] (zm len (ST X c q k1 (m + ow + cs.length) (wrL (wrL f m ((List.replicate ow ((11 : Int), (0 : Int))).map opc)) (m + ow) (cs.map opc))) ν) := fun D len X ν c q f m i v4 hD hX e5 hm hi => by
          have U := hPC (D + 7) len X ν c q (wrL f m ((List.replicate ow ((11 : Int), (0 : Int))).map opc)) (m + ow) (by omega) hX e5 (by omega)
          rw [C1 D len X ν c q f m i v4 hX e5 hm hi, U]
          simp (disch := omega) only [B_X7_readWhen_100, B_X7_readWhen_117, zbi_some, zbl_some, zbv_some, zbi_none, zbl_none, zbv_none, zbi_ite, zbl_ite, zbv_ite, zbZ, zbO, zc_lt, zc_le, zc_ge, zc_gt, zc_eq, zk0, zk1, zk2, zk3, zk4, zk5, zk6, zk7, zk8, zk9, zk10, zk11, zk12, zk14, zk15, zk16, zk17, zk19, zk20, zk21, zk24, zk25, zk30, zk32, zk36, zk40, zk45, zk50, zk64, zk97, zk99, zk100, zk102, zk122, zk128, zk255, zk800, zk801, zk900, zk999, zk1000, zk1997, zk9999, zk10000, zk100000, zk99999, zk9999999, zk999999999, zk2147483647, zlc0, zlc1, zlc2, zlc3, zlc4, zlc23, zlc99, zlc100, zlc9999999, zlc999999999999, zlc1073741824, zi_neg, zi_add, zi_sub, zi_mul, zl_neg, zl_add, zl_sub, zl_mul, zi_toInt, zi_nat, zi_le, zi_lt, zi_eq, zl_le, zl_lt, zl_eq, zl_toInt, zl_of32, zi_of64, zi_div, zl_div, zmodI, ↓reduceIte, zTle, zFle, zTlt, zFlt, zTeq, zFeq, if_true, if_false, and_self, and_true, true_and, and_false, false_and, or_self, or_true, true_or, or_false, false_or, not_true_eq_false, not_false_eq_true, zcastA, zcastL, znatC, zab, Int.reduceAdd, Int.reduceSub, Int.reduceMul, Int.reduceNeg, Int.reduceToNat, Nat.reduceAdd]
        have M2 : ∀ (d len : Nat) (Y : zMu) (ν : zNu) (r a b e : Nat → Int32) (m B : Nat) (hd : Int) (br s ap : Nat) (v : Value), (0 ≤ hd ∧ hd ≤ 1) → (B : Int) = 800 * (1 - hd) → CcY g Y → r 6 = zi (L : Int) → r 67 = zi hd → r 75 = zi (m : Int) → MS pl nn ty va r k → r 76 = zi (o : Int) → r 78 = zi ((s + ow + ap : Nat) : Int) → (m + s + ow + ap ≤ k ∧ s ≤ 3 * o ∧ br ≤ o ∧ ap ≤ 1) → (s = 0 ∨ e (s - 1) = zi 12) → (ow = 1 → e s = zi 11) → (ap = 1 → e (s + ow) = zi 10) → ∃ (r' e' : Nat → Int32) (v' : Value), zE zc_X12_readAny (zF zT0 (d + 7)) 9 [.ref 92, .int (zi (br : Int)), .int (zi 0), v] [] (zm len (Mm Y r a b e) ν) = zE zc_X12_readAny (zF zT0 (d + 7)) 9 [.ref 92, .int (zi (br : Int)), .int (zi 0), v'] [] (zm len (Mm Y r' (wrL a (B + m) (((List.replicate ap ((10 : Int), (0 : Int)) ++ List.replicate ow ((11 : Int), (0 : Int))) ++ cs).map opo)) (wrL b (B + m) (((List.replicate ap ((10 : Int), (0 : Int)) ++ List.replicate ow ((11 : Int), (0 : Int))) ++ cs).map opa)) e') ν) ∧ MS pl nn ty va r' k1 ∧ r' 75 = zi ((m + ap + ow + cs.length : Nat) : Int) ∧ r' 76 = zi (o : Int) ∧ r' 78 = zi ((s + 1 : Nat) : Int) ∧ (∀ i, i < s → e' i = e i) ∧ e' s = zi 11 ∧ frR r r' := fun d len Y ν r a b e m B hd br s ap v hhd hB hY e6 e67 e75 hM e76 e78 hh h0 h1 h2 => by
          obtain ⟨r1, E1, a1, a2, a3, a4, a5⟩ := M1 d len Y ν r a b e m B hd br s ap v hhd hB hY e6 e67 e75 hM e76 e78 hh h0 h1 h2
          obtain ⟨hm, hs, hbr, hap⟩ := hh
          obtain ⟨r2, e2, v2, E2, b1, b2, b3, b4, b5, b6⟩ := hPM d len Y ν r1 (wrL a (B + m) ((List.replicate ap ((10 : Int), (0 : Int)) ++ List.replicate ow ((11 : Int), (0 : Int))).map opo)) (wrL b (B + m) ((List.replicate ap ((10 : Int), (0 : Int)) ++ List.replicate ow ((11 : Int), (0 : Int))).map opa)) (upd e s (zi 11)) (m + ap + ow) B hd br (s + 1) 0 v hhd hB hY (by rw [a5 6 (by decide) (by decide) (by decide) (by decide) (by decide) (by decide) (by decide)]; exact e6) (by rw [a5 67 (by decide) (by decide) (by decide) (by decide) (by decide) (by decide) (by decide)]; exact e67) a2 a1 a3 a4 ⟨by omega, by omega, hbr, by omega, by omega⟩ (fun i hi => by omega) (Or.inr (oth s e))
          refine ⟨r2, e2, v2, E1.trans (E2.trans ?_), b1, b2, b3, b4, fun i hi => by rw [b5 i (by omega), upd_ne _ _ (by omega)], by rw [b5 _ (by omega), upd_eq], fun i i7 i8 i9 i10 i75 i76 i78 => by rw [b6 i i7 i8 i9 i10 i75 i76 i78, a5 i i7 i8 i9 i10 i75 i76 i78]⟩
          rw [show cs ++ List.replicate 0 ((9 : Int), (0 : Int)) = cs by simp, wrL_cat _ a (B + m) (B + (m + ap + ow)) (List.replicate ap ((10 : Int), (0 : Int)) ++ List.replicate ow ((11 : Int), (0 : Int))) cs (by rw [List.length_append, List.length_replicate, List.length_replicate]; omega), wrL_cat _ b (B + m) (B + (m + ap + ow)) (List.replicate ap ((10 : Int), (0 : Int)) ++ List.replicate ow ((11 : Int), (0 : Int))) cs (by rw [List.length_append, List.length_replicate, List.length_replicate]; omega)]
        rcases ih k1 (by omega) (by omega) l2 1 (by omega) with ⟨k2, rest, ⟨j1, j2, j3⟩, hTr, hRC, hRM⟩ | ⟨ft, kf, hRC, hRM⟩
        · refine Or.inl ⟨k2, List.replicate ow ((11 : Int), (0 : Int)) ++ (cs ++ rest), ⟨by omega, j2, by simp only [List.length_append, List.length_replicate]; omega⟩, WLT_or ho hw hT hTr, fun D len X ν c q f m i v4 hD hX e5 hm hi => ?_, fun d len Y ν r a b e m B hd br s ap v hhd hB hY e6 e67 e75 hM e76 e78 hh h0 h1 h2 => ?_⟩
          · obtain ⟨D, rfl⟩ : ∃ D', D = D' + 7 := ⟨D - 7, by omega⟩
            have E2 := hRC (D + 7) len X ν c q (wrL (wrL f m ((List.replicate ow ((11 : Int), (0 : Int))).map opc)) (m + ow) (cs.map opc)) (m + ow + cs.length) (i + 1) (.int (zi 1)) hD hX e5 (by omega) (by omega)
            refine (C2 D len X ν c q f m i v4 (by omega) hX e5 hm hi).trans (E2.trans ?_)
            rw [wrL_cat _ f m (m + ow) (List.replicate ow ((11 : Int), (0 : Int))) cs (by rw [List.length_replicate]), wrL_cat _ f m (m + ow + cs.length) (List.replicate ow ((11 : Int), (0 : Int)) ++ cs) rest (by rw [List.length_append, List.length_replicate]; omega), List.append_assoc, show m + ow + cs.length + rest.length = m + (List.replicate ow ((11 : Int), (0 : Int)) ++ (cs ++ rest)).length by simp only [List.length_append, List.length_replicate]; omega]
          · obtain ⟨r1, e1, v1, E1, a1, a2, a3, a4, a5, a6, a7⟩ := M2 d len Y ν r a b e m B hd br s ap v hhd hB hY e6 e67 e75 hM e76 e78 hh h0 h1 h2
            obtain ⟨hm, hs, hbr, hap⟩ := hh
            obtain ⟨r2, e2, v2, E2, b1, b2, b3, b4, b5, b6⟩ := hRM d len Y ν r1 (wrL a (B + m) (((List.replicate ap ((10 : Int), (0 : Int)) ++ List.replicate ow ((11 : Int), (0 : Int))) ++ cs).map opo)) (wrL b (B + m) (((List.replicate ap ((10 : Int), (0 : Int)) ++ List.replicate ow ((11 : Int), (0 : Int))) ++ cs).map opa)) e1 (m + ap + ow + cs.length) B hd br s 0 v1 hhd hB hY (by rw [a7 6 (by decide) (by decide) (by decide) (by decide) (by decide) (by decide) (by decide)]; exact e6) (by rw [a7 67 (by decide) (by decide) (by decide) (by decide) (by decide) (by decide) (by decide)]; exact e67) a2 a1 a3 a4 ⟨by omega, hs, hbr, by omega⟩ (by
              rcases h0 with q | q
              · exact Or.inl q
              · by_cases z : s = 0
                · exact Or.inl z
                · exact Or.inr (by rw [a5 _ (by omega)]; exact q)) (fun _ => a6) (fun w => by omega)
            refine ⟨r2, e2, v2, E1.trans (E2.trans ?_), b1, ?_, b3, b4, fun i hi => by rw [b5 i hi, a5 i (by omega)], fun i i7 i8 i9 i10 i75 i76 i78 => by rw [b6 i i7 i8 i9 i10 i75 i76 i78, a7 i i7 i8 i9 i10 i75 i76 i78]⟩
            · rw [show List.replicate 0 ((10 : Int), (0 : Int)) ++ rest = rest by simp, wrL_cat _ a (B + m) (B + (m + ap + ow + cs.length)) ((List.replicate ap ((10 : Int), (0 : Int)) ++ List.replicate ow ((11 : Int), (0 : Int))) ++ cs) _ (by rw [List.length_append, List.length_append, List.length_replicate, List.length_replicate]; omega), wrL_cat _ b (B + m) (B + (m + ap + ow + cs.length)) ((List.replicate ap ((10 : Int), (0 : Int)) ++ List.replicate ow ((11 : Int), (0 : Int))) ++ cs) _ (by rw [List.length_append, List.length_append, List.length_replicate, List.length_replicate]; omega), List.append_assoc, List.append_assoc]
            · rw [b2, show m + ap + ow + cs.length + 0 + rest.length = m + ap + (List.replicate ow ((11 : Int), (0 : Int)) ++ (cs ++ rest)).length by simp only [List.length_append, List.length_replicate]; omega]
        · refine Or.inr ⟨ft, kf, fun D len X ν c q f m i v4 hD hX e5 hm hi => ?_, fun d len Y ν r a b e m B hd br s ap v hhd hB hY e6 e67 e75 hM e76 e78 hh h0 h1 h2 => ?_⟩
          · obtain ⟨D, rfl⟩ : ∃ D', D = D' + 7 := ⟨D - 7, by omega⟩
            obtain ⟨c', q', f', E2, E3⟩ := hRC (D + 7) len X ν c q (wrL (wrL f m ((List.replicate ow ((11 : Int), (0 : Int))).map opc)) (m + ow) (cs.map opc)) (m + ow + cs.length) (i + 1) (.int (zi 1)) hD hX e5 (by omega) (by omega)
            exact ⟨c', q', f', (C2 D len X ν c q f m i v4 (by omega) hX e5 hm hi).trans E2, E3⟩
          · obtain ⟨r1, e1, v1, E1, a1, a2, a3, a4, a5, a6, a7⟩ := M2 d len Y ν r a b e m B hd br s ap v hhd hB hY e6 e67 e75 hM e76 e78 hh h0 h1 h2
            obtain ⟨hm, hs, hbr, hap⟩ := hh
            obtain ⟨r2, a', b', e2, E2, b1, b2, b3⟩ := hRM d len Y ν r1 (wrL a (B + m) (((List.replicate ap ((10 : Int), (0 : Int)) ++ List.replicate ow ((11 : Int), (0 : Int))) ++ cs).map opo)) (wrL b (B + m) (((List.replicate ap ((10 : Int), (0 : Int)) ++ List.replicate ow ((11 : Int), (0 : Int))) ++ cs).map opa)) e1 (m + ap + ow + cs.length) B hd br s 0 v1 hhd hB hY (by rw [a7 6 (by decide) (by decide) (by decide) (by decide) (by decide) (by decide) (by decide)]; exact e6) (by rw [a7 67 (by decide) (by decide) (by decide) (by decide) (by decide) (by decide) (by decide)]; exact e67) a2 a1 a3 a4 ⟨by omega, hs, hbr, by omega⟩ (by
              rcases h0 with q | q
              · exact Or.inl q
              · by_cases z : s = 0
                · exact Or.inl z
                · exact Or.inr (by rw [a5 _ (by omega)]; exact q)) (fun _ => a6) (fun w => by omega)
            exact ⟨r2, a', b', e2, E1.trans E2, b1, b2, frM_tr (frM_wR a7 (by simp only [List.length_map, List.length_append, List.length_replicate]; omega) (by simp only [List.length_map, List.length_append, List.length_replicate]; omega)) b3⟩
      · refine Or.inr ⟨ft, kf, fun D len X ν c q f m i v4 hD hX e5 hm hi => ?_, fun d len Y ν r a b e m B hd br s ap v hhd hB hY e6 e67 e75 hM e76 e78 hh h0 h1 h2 => ?_⟩
        · obtain ⟨D, rfl⟩ : ∃ D', D = D' + 7 := ⟨D - 7, by omega⟩
          obtain ⟨c', q', f', U, U1⟩ := hPC (D + 7) len X ν c q (wrL f m ((List.replicate ow ((11 : Int), (0 : Int))).map opc)) (m + ow) (by omega) hX e5 (by omega)
          refine ⟨c', q', f', ?_, U1⟩
          rw [C1 D len X ν c q f m i v4 hX e5 hm hi, U]
          simp (disch := omega) only [B_X7_readWhen_100, zbi_some, zbl_some, zbv_some, zbi_none, zbl_none, zbv_none, zbi_ite, zbl_ite, zbv_ite, zbZ, zbO, zc_lt, zc_le, zc_ge, zc_gt, zc_eq, zk0, zk1, zk2, zk3, zk4, zk5, zk6, zk7, zk8, zk9, zk10, zk11, zk12, zk14, zk15, zk16, zk17, zk19, zk20, zk21, zk24, zk25, zk30, zk32, zk36, zk40, zk45, zk50, zk64, zk97, zk99, zk100, zk102, zk122, zk128, zk255, zk800, zk801, zk900, zk999, zk1000, zk1997, zk9999, zk10000, zk100000, zk99999, zk9999999, zk999999999, zk2147483647, zlc0, zlc1, zlc2, zlc3, zlc4, zlc23, zlc99, zlc100, zlc9999999, zlc999999999999, zlc1073741824, zi_neg, zi_add, zi_sub, zi_mul, zl_neg, zl_add, zl_sub, zl_mul, zi_toInt, zi_nat, zi_le, zi_lt, zi_eq, zl_le, zl_lt, zl_eq, zl_toInt, zl_of32, zi_of64, zi_div, zl_div, zmodI, ↓reduceIte, zTle, zFle, zTlt, zFlt, zTeq, zFeq, if_true, if_false, and_self, and_true, true_and, and_false, false_and, or_self, or_true, true_or, or_false, false_or, not_true_eq_false, not_false_eq_true, zcastA, zcastL, znatC, zab, Int.reduceAdd, Int.reduceSub, Int.reduceMul, Int.reduceNeg, Int.reduceToNat, Nat.reduceAdd]
        · obtain ⟨r1, E1, a1, a2, a3, a4, a5⟩ := M1 d len Y ν r a b e m B hd br s ap v hhd hB hY e6 e67 e75 hM e76 e78 hh h0 h1 h2
          obtain ⟨hm, hs, hbr, hap⟩ := hh
          obtain ⟨r2, a', b', e2, E2, b1, b2, b3⟩ := hPM d len Y ν r1 (wrL a (B + m) ((List.replicate ap ((10 : Int), (0 : Int)) ++ List.replicate ow ((11 : Int), (0 : Int))).map opo)) (wrL b (B + m) ((List.replicate ap ((10 : Int), (0 : Int)) ++ List.replicate ow ((11 : Int), (0 : Int))).map opa)) (upd e s (zi 11)) (m + ap + ow) B hd br (s + 1) 0 v hhd hB hY (by rw [a5 6 (by decide) (by decide) (by decide) (by decide) (by decide) (by decide) (by decide)]; exact e6) (by rw [a5 67 (by decide) (by decide) (by decide) (by decide) (by decide) (by decide) (by decide)]; exact e67) a2 a1 a3 a4 ⟨by omega, by omega, hbr, by omega, by omega⟩ (fun i hi => by omega) (Or.inr (oth s e))
          exact ⟨r2, a', b', e2, E1.trans E2, b1, b2, frM_tr (frM_wR a5 (by simp only [List.length_map, List.length_append, List.length_replicate]; omega) (by simp only [List.length_map, List.length_append, List.length_replicate]; omega)) b3⟩
end WHEN

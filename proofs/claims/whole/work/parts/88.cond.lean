/-! RULES read: conditions, both sides -/
def frR (r r' : Nat → Int32) : Prop := ∀ i, i ≠ 7 → i ≠ 8 → i ≠ 9 → i ≠ 10 → i ≠ 75 → i ≠ 76 → i ≠ 78 → r' i = r i
theorem frM_wR {B : Nat} {r r' a b : Nat → Int32} {m : Nat} {cs ds : List Int32} (h : frR r r') (hm : m + cs.length ≤ 800) (hn : m + ds.length ≤ 800) : frM B r r' a (wrL a (B + m) cs) b (wrL b (B + m) ds) := ⟨fun i i7 i8 i9 i10 _ _ i75 i76 i78 => h i i7 i8 i9 i10 i75 i76 i78, fun i hi => by
  rcases hi with hi | hi
  · exact wrL_lo _ _ _ _ (by omega)
  · exact wrL_hi _ _ _ _ (by omega), fun i hi => by
  rcases hi with hi | hi
  · exact wrL_lo _ _ _ _ (by omega)
  · exact wrL_hi _ _ _ _ (by omega)⟩
/-- the model reads a condition: from due on, to where it isn't due -/
def CMo (g : Nat → Int) (L : Nat) (pl nn : Nat → Nat) (ty va : Nat → Int) (o k k' : Nat) (cs : List (Int × Int)) : Prop := ∀ (d len : Nat) (Y : zMu) (ν : zNu) (r a b e : Nat → Int32) (m B : Nat) (hd : Int) (br s t : Nat) (v : Value), (0 ≤ hd ∧ hd ≤ 1) → (B : Int) = 800 * (1 - hd) → CcY g Y → r 6 = zi (L : Int) → r 67 = zi hd → r 75 = zi (m : Int) → MS pl nn ty va r k → r 76 = zi (o : Int) → r 78 = zi (s : Int) → (m + s ≤ k ∧ s ≤ 3 * o + 2 ∧ br ≤ o ∧ t ≤ s ∧ t ≤ o) → (∀ i, i < t → e (s - 1 - i) = zi 9) → (t = s ∨ e (s - 1 - t) ≠ zi 9) → ∃ (r' e' : Nat → Int32) (v' : Value), zE zc_X12_readAny (zF zT0 (d + 7)) 9 [.ref 92, .int (zi (br : Int)), .int (zi 1), v] [] (zm len (Mm Y r a b e) ν) = zE zc_X12_readAny (zF zT0 (d + 7)) 9 [.ref 92, .int (zi (br : Int)), .int (zi 0), v'] [] (zm len (Mm Y r' (wrL a (B + m) ((cs ++ List.replicate t (9, 0)).map opo)) (wrL b (B + m) ((cs ++ List.replicate t (9, 0)).map opa)) e') ν) ∧ MS pl nn ty va r' k' ∧ r' 75 = zi ((m + cs.length + t : Nat) : Int) ∧ r' 76 = zi ((o - t : Nat) : Int) ∧ r' 78 = zi ((s - t : Nat) : Int) ∧ (∀ i, i < s → e' i = e i) ∧ frR r r'
def CMF (g : Nat → Int) (L : Nat) (pl nn : Nat → Nat) (ty va : Nat → Int) (o k kf : Nat) (ft : Int) : Prop := ∀ (d len : Nat) (Y : zMu) (ν : zNu) (r a b e : Nat → Int32) (m B : Nat) (hd : Int) (br s t : Nat) (v : Value), (0 ≤ hd ∧ hd ≤ 1) → (B : Int) = 800 * (1 - hd) → CcY g Y → r 6 = zi (L : Int) → r 67 = zi hd → r 75 = zi (m : Int) → MS pl nn ty va r k → r 76 = zi (o : Int) → r 78 = zi (s : Int) → (m + s ≤ k ∧ s ≤ 3 * o + 2 ∧ br ≤ o ∧ t ≤ s ∧ t ≤ o) → (∀ i, i < t → e (s - 1 - i) = zi 9) → (t = s ∨ e (s - 1 - t) ≠ zi 9) → ∃ r' a' b' e', zE zc_X12_readAny (zF zT0 (d + 7)) 9 [.ref 92, .int (zi (br : Int)), .int (zi 1), v] [] (zm len (Mm Y r a b e) ν) = some (.int (zi (-1)), zm len (Mm Y r' a' b' e') ν) ∧ r' 12 = zi ft ∧ r' 13 = zi (pl kf : Int) ∧ frM B r r' a a' b b'
def CC (g : Nat → Int) (L K : Nat) (pl nn : Nat → Nat) (ty va : Nat → Int) (o k : Nat) : Prop := (∃ (k' : Nat) (cs : List (Int × Int)), (k < k' ∧ k' ≤ K ∧ k + cs.length ≤ k') ∧ CTo (2 * o + 2) cs ∧ PC K pl ty va 89 [.ref 57, .int (zi (o : Int))] (2 * (8 - o) + 7) k k' cs ∧ CMo g L pl nn ty va o k k' cs) ∨ ∃ (ft : Int) (kf : Nat), PCF K pl ty va 89 [.ref 57, .int (zi (o : Int))] (2 * (8 - o) + 7) k kf ft ∧ CMF g L pl nn ty va o k kf ft
/-- the model behind a condition: to where all is settled -/
def WLM (g : Nat → Int) (L : Nat) (pl nn : Nat → Nat) (ty va : Nat → Int) (o ow k k' : Nat) (cs : List (Int × Int)) : Prop := ∀ (d len : Nat) (Y : zMu) (ν : zNu) (r a b e : Nat → Int32) (m B : Nat) (hd : Int) (br s ap : Nat) (v : Value), (0 ≤ hd ∧ hd ≤ 1) → (B : Int) = 800 * (1 - hd) → CcY g Y → r 6 = zi (L : Int) → r 67 = zi hd → r 75 = zi (m : Int) → MS pl nn ty va r k → r 76 = zi (o : Int) → r 78 = zi ((s + ow + ap : Nat) : Int) → (m + s + ow + ap ≤ k ∧ s ≤ 3 * o ∧ br ≤ o ∧ ap ≤ 1) → (s = 0 ∨ e (s - 1) = zi 12) → (ow = 1 → e s = zi 11) → (ap = 1 → e (s + ow) = zi 10) → ∃ (r' e' : Nat → Int32) (v' : Value), zE zc_X12_readAny (zF zT0 (d + 7)) 9 [.ref 92, .int (zi (br : Int)), .int (zi 0), v] [] (zm len (Mm Y r a b e) ν) = zE zc_X12_readAny (zF zT0 (d + 7)) 187 [.ref 92, .int (zi (br : Int)), .int (zi 0), v'] [] (zm len (Mm Y r' (wrL a (B + m) ((List.replicate ap (10, 0) ++ cs).map opo)) (wrL b (B + m) ((List.replicate ap (10, 0) ++ cs).map opa)) e') ν) ∧ MS pl nn ty va r' k' ∧ r' 75 = zi ((m + ap + cs.length : Nat) : Int) ∧ r' 76 = zi (o : Int) ∧ r' 78 = zi (s : Int) ∧ (∀ i, i < s → e' i = e i) ∧ frR r r'
def WLMF (g : Nat → Int) (L : Nat) (pl nn : Nat → Nat) (ty va : Nat → Int) (o ow k kf : Nat) (ft : Int) : Prop := ∀ (d len : Nat) (Y : zMu) (ν : zNu) (r a b e : Nat → Int32) (m B : Nat) (hd : Int) (br s ap : Nat) (v : Value), (0 ≤ hd ∧ hd ≤ 1) → (B : Int) = 800 * (1 - hd) → CcY g Y → r 6 = zi (L : Int) → r 67 = zi hd → r 75 = zi (m : Int) → MS pl nn ty va r k → r 76 = zi (o : Int) → r 78 = zi ((s + ow + ap : Nat) : Int) → (m + s + ow + ap ≤ k ∧ s ≤ 3 * o ∧ br ≤ o ∧ ap ≤ 1) → (s = 0 ∨ e (s - 1) = zi 12) → (ow = 1 → e s = zi 11) → (ap = 1 → e (s + ow) = zi 10) → ∃ r' a' b' e', zE zc_X12_readAny (zF zT0 (d + 7)) 9 [.ref 92, .int (zi (br : Int)), .int (zi 0), v] [] (zm len (Mm Y r a b e) ν) = some (.int (zi (-1)), zm len (Mm Y r' a' b' e') ν) ∧ r' 12 = zi ft ∧ r' 13 = zi (pl kf : Int) ∧ frM B r r' a a' b b'
def WLC (K : Nat) (pl : Nat → Nat) (ty va : Nat → Int) (o ow k k' : Nat) (cs : List (Int × Int)) : Prop := ∀ (D len : Nat) (X : zMu) (ν : zNu) (c q f : Nat → Int32) (m i : Nat) (v4 : Value), 2 * (8 - o) + 7 ≤ D → CcX K pl ty va X → c 5 = zi ((K : Int) + 1) → m + ow ≤ k → i + 1 ≤ k → zE zc_X7_readWhen (zF zT0 D) 14 [.ref 57, .int (zi (o : Int)), .int (zi (ow : Int)), .int (zi (i : Int)), v4] [] (zm len (ST X c q k m f) ν) = some (.int (zi 1), zm len (ST X c q k' (m + cs.length) (wrL f m (cs.map opc))) ν)
def WLCF (K : Nat) (pl : Nat → Nat) (ty va : Nat → Int) (o ow k kf : Nat) (ft : Int) : Prop := ∀ (D len : Nat) (X : zMu) (ν : zNu) (c q f : Nat → Int32) (m i : Nat) (v4 : Value), 2 * (8 - o) + 7 ≤ D → CcX K pl ty va X → c 5 = zi ((K : Int) + 1) → m + ow ≤ k → i + 1 ≤ k → ∃ c' q' f' : Nat → Int32, zE zc_X7_readWhen (zF zT0 D) 14 [.ref 57, .int (zi (o : Int)), .int (zi (ow : Int)), .int (zi (i : Int)), v4] [] (zm len (ST X c q k m f) ν) = some (.int (zi 0), zm len (CM X c' q' f') ν) ∧ c' 7 = zi ft ∧ c' 8 = zi (pl kf : Int) ∧ frC c c' q q'
def WLT (o ow : Nat) (cs : List (Int × Int)) : Prop := ∀ (h : Nat) (T : Nat → Nat), h ≤ 2 * o → T h = 2 → (ow = 1 → T (h + 1) = 2) → ∃ T', RunL cs (h + 1 + ow) T (h + 1) T' ∧ (∀ i, i < h → T' i = T i) ∧ T' h = 2
theorem bin_T {o : Int} (ho : 10 ≤ o ∧ o ≤ 11) {h : Nat} (hh : h + 2 ≤ 64) (T : Nat → Nat) (h1 : T (h + 1) = 2) (h0 : T h = 2) : RunL [(o, 0)] (h + 2) T (h + 1) T := ⟨h + 1, T, Or.inr (Or.inr (Or.inr (Or.inr ⟨ho, by omega, h1, h0, by omega, fun _ _ => rfl, h0⟩))), rfl, rfl⟩
theorem WLT_end {o ow : Nat} (ho : o ≤ 8) (hw : ow ≤ 1) : WLT o ow (List.replicate ow (11, 0)) := fun h T hh h0 h1 => by
  have : ow = 0 ∨ ow = 1 := by omega
  rcases this with z | z <;> subst z
  · exact ⟨T, ⟨rfl, rfl⟩, fun _ _ => rfl, h0⟩
  · exact ⟨T, bin_T (by decide) (by omega) T (h1 rfl) h0, fun _ _ => rfl, h0⟩
theorem WLT_and {o ow : Nat} {cs rest : List (Int × Int)} (ho : o ≤ 8) (hw : ow ≤ 1) (a : CTo (2 * o + 2) cs) (b : WLT o ow rest) : WLT o ow (cs ++ ((10, 0) :: rest)) := fun h T hh h0 h1 => by
  obtain ⟨T1, r1, s1, t1⟩ := a (h + 1 + ow) T (by omega)
  have t0 : T1 (h + ow) = 2 := by
    rw [s1 _ (by omega)]
    have : ow = 0 ∨ ow = 1 := by omega
    rcases this with z | z <;> subst z
    · exact h0
    · exact h1 rfl
  obtain ⟨T2, r2, s2, t2⟩ := b h T1 hh (by rw [s1 _ (by omega)]; exact h0) (fun w => by rw [s1 _ (by omega)]; exact h1 w)
  have B := bin_T (o := 10) (by decide) (h := h + ow) (by omega) T1 (by rw [show h + ow + 1 = h + 1 + ow by omega]; exact t1) t0
  rw [show h + ow + 2 = h + 1 + ow + 1 by omega, show h + ow + 1 = h + 1 + ow by omega] at B
  exact ⟨T2, RunL_app _ _ r1 (RunL_app [(10, 0)] rest B r2), fun i hi => by rw [s2 i hi, s1 i (by omega)], t2⟩
theorem WLT_or {o ow : Nat} {cs rest : List (Int × Int)} (ho : o ≤ 8) (hw : ow ≤ 1) (a : CTo (2 * o + 2) cs) (b : WLT o 1 rest) : WLT o ow (List.replicate ow (11, 0) ++ (cs ++ rest)) := fun h T hh h0 h1 => by
  obtain ⟨T0, r0, s0, t0⟩ := WLT_end ho hw h T hh h0 h1
  obtain ⟨T1, r1, s1, t1⟩ := a (h + 1) T0 (by omega)
  obtain ⟨T2, r2, s2, t2⟩ := b h T1 hh (by rw [s1 _ (by omega)]; exact t0) (fun _ => t1)
  exact ⟨T2, RunL_app _ _ r0 (RunL_app _ _ r1 r2), fun i hi => by rw [s2 i hi, s1 i (by omega), s0 i hi], t2⟩
section COND
variable {g : Nat → Int} {L K : Nat} {pl nn : Nat → Nat} {ty va : Nat → Int}
theorem wl_end (S : Strm g L K pl nn ty va) (hL : L ≤ 800) (o ow k : Nat) (ho : o ≤ 8) (hw : ow ≤ 1) (hk : k ≤ K) (h135 : kd ty va k ≠ 135) (h136 : kd ty va k ≠ 136) : WLC K pl ty va o ow k k (List.replicate ow (11, 0)) ∧ WLM g L pl nn ty va o ow k k (List.replicate ow (11, 0)) := by
  have hKL := S.2.1.2.2.2
  have xb : 0 ≤ kd ty va k ∧ kd ty va k ≤ 142 := by have := (kd_c S hk).1; unfold Kc at this; omega
  have z135 : (135 : Int32) = zi 135 := rfl
  refine ⟨fun D len X ν c q f m i v4 hD hX e5 hm hi => ?_, fun d len Y ν r a b e m B hd br s ap v hhd hB hY e6 e67 e75 hM e76 e78 ⟨hm, hs, hbr, hap⟩ h0 h1 h2 => ?_⟩
  · obtain ⟨D, rfl⟩ : ∃ D', D = D' + 7 := ⟨D - 7, by omega⟩
    have A := S_kind hk (by omega) (D + 6) len hX ν c q f m
    rw [B_X7_readWhen_14]
    have : ow = 0 ∨ ow = 1 := by omega
    rcases this with z | z <;> subst z
    · simp (disch := omega) only [A, z135, zq136, h135, h136, B_X7_readWhen_28, B_X7_readWhen_41, B_X7_readWhen_123, B_X7_readWhen_134, zbi_some, zbl_some, zbv_some, zbi_none, zbl_none, zbv_none, zbi_ite, zbl_ite, zbv_ite, zbZ, zbO, zc_lt, zc_le, zc_ge, zc_gt, zc_eq, zk0, zk1, zk2, zk3, zk4, zk5, zk6, zk7, zk8, zk9, zk10, zk11, zk12, zk14, zk15, zk16, zk17, zk19, zk20, zk21, zk24, zk25, zk30, zk32, zk36, zk40, zk45, zk50, zk64, zk97, zk99, zk100, zk102, zk122, zk128, zk255, zk800, zk801, zk900, zk999, zk1000, zk1997, zk9999, zk10000, zk100000, zk99999, zk9999999, zk999999999, zk2147483647, zlc0, zlc1, zlc2, zlc3, zlc4, zlc23, zlc99, zlc100, zlc9999999, zlc999999999999, zlc1073741824, zi_neg, zi_add, zi_sub, zi_mul, zl_neg, zl_add, zl_sub, zl_mul, zi_toInt, zi_nat, zi_le, zi_lt, zi_eq, zl_le, zl_lt, zl_eq, zl_toInt, zl_of32, zi_of64, zi_div, zl_div, zmodI, ↓reduceIte, zTle, zFle, zTlt, zFlt, zTeq, zFeq, if_true, if_false, and_self, and_true, true_and, and_false, false_and, or_self, or_true, true_or, or_false, false_or, not_true_eq_false, not_false_eq_true, zcastA, zcastL, znatC, zab, Int.reduceAdd, Int.reduceSub, Int.reduceMul, Int.reduceNeg, Int.reduceToNat, Nat.reduceAdd]
      rfl
    · have W := S_write (D + 6) len X ν c q f (k := k) (m := m) (by omega) (zi (-135))
      have zm135 : (-135 : Int32) = zi (-135) := rfl
      simp (disch := omega) only [A, z135, zq136, h135, h136, B_X7_readWhen_28, B_X7_readWhen_41, B_X7_readWhen_123, zm135, W, B_X7_readWhen_134, zbi_some, zbl_some, zbv_some, zbi_none, zbl_none, zbv_none, zbi_ite, zbl_ite, zbv_ite, zbZ, zbO, zc_lt, zc_le, zc_ge, zc_gt, zc_eq, zk0, zk1, zk2, zk3, zk4, zk5, zk6, zk7, zk8, zk9, zk10, zk11, zk12, zk14, zk15, zk16, zk17, zk19, zk20, zk21, zk24, zk25, zk30, zk32, zk36, zk40, zk45, zk50, zk64, zk97, zk99, zk100, zk102, zk122, zk128, zk255, zk800, zk801, zk900, zk999, zk1000, zk1997, zk9999, zk10000, zk100000, zk99999, zk9999999, zk999999999, zk2147483647, zlc0, zlc1, zlc2, zlc3, zlc4, zlc23, zlc99, zlc100, zlc9999999, zlc999999999999, zlc1073741824, zi_neg, zi_add, zi_sub, zi_mul, zl_neg, zl_add, zl_sub, zl_mul, zi_toInt, zi_nat, zi_le, zi_lt, zi_eq, zl_le, zl_lt, zl_eq, zl_toInt, zl_of32, zi_of64, zi_div, zl_div, zmodI, ↓reduceIte, zTle, zFle, zTlt, zFlt, zTeq, zFeq, if_true, if_false, and_self, and_true, true_and, and_false, false_and, or_self, or_true, true_or, or_false, false_or, not_true_eq_false, not_false_eq_true, zcastA, zcastL, znatC, zab, Int.reduceAdd, Int.reduceSub, Int.reduceMul, Int.reduceNeg, Int.reduceToNat, Nat.reduceAdd]
      rfl
  · obtain ⟨r1, E1, a1, a2, a3, a4⟩ := F_settle (d + 5) len ν Y hhd hB 10 (by decide) ap r a b e m (s + ow + ap) o (by omega) (by omega) (by omega) (fun q => by omega) e67 e75 e78 e76 (fun i hi => by
      have i0 : i = 0 := by omega
      have a1 : ap = 1 := by omega
      rw [i0, show s + ow + ap - 1 - 0 = s + ow by omega]
      exact h2 a1) (by
      by_cases z : s + ow = 0
      · exact Or.inl (by omega)
      · right
        rw [show s + ow + ap - 1 - ap = s + ow - 1 by omega]
        by_cases y : ow = 1
        · rw [y, show s + 1 - 1 = s by omega, h1 y]
          decide
        · rw [show s + ow - 1 = s - 1 by omega]
          rcases h0 with q | q
          · omega
          · rw [q]
            decide)
    obtain ⟨r2, E2, b1, b2, b3, b4⟩ := F_settle (d + 5) len ν Y hhd hB 11 (by decide) ow r1 (wrL a (B + m) ((List.replicate ap (10, (0 : Int))).map opo)) (wrL b (B + m) ((List.replicate ap (10, (0 : Int))).map opa)) e (m + ap) (s + ow) o (by omega) (by omega) (by omega) (fun q => by omega) (by rw [a4 67 (by decide) (by decide) (by decide)]; exact e67) a1 (by rw [a2, show s + ow + ap - ap = s + ow by omega]) a3 (fun i hi => by
      have i0 : i = 0 := by omega
      have w1 : ow = 1 := by omega
      rw [i0, show s + ow - 1 - 0 = s by omega]
      exact h1 w1) (by
      by_cases z : s = 0
      · exact Or.inl (by omega)
      · right
        rw [show s + ow - 1 - ow = s - 1 by omega]
        rcases h0 with q | q
        · omega
        · rw [q]
          decide)
    have w1 := M_wd S hk hM (d + 6) len Y ν a b e (w := 14) 136 (by omega)
    have w2 := M_wd S hk hM (d + 6) len Y ν a b e (w := 13) 135 (by omega)
    have z13 : (13 : Int32) = zi 13 := rfl
    refine ⟨r2, e, v, ?_, MS_fr hM (fun i i7 i10 => by rw [b4 i (by omega) (by omega) (by omega), a4 i (by omega) (by omega) (by omega)]), by rw [b1, List.length_replicate], b3, by rw [b2, show s + ow - ow = s by omega], fun _ _ => rfl, fun i _ _ _ _ i75 i76 i78 => by rw [b4 i i75 i76 i78, a4 i i75 i76 i78]⟩
    rw [B_X12_readAny_9]
    simp (disch := omega) only [w1, w2, h135, h136, zbF, z13, B_X12_readAny_115, B_X12_readAny_145, E1, B_X12_readAny_181, E2, zbi_some, zbl_some, zbv_some, zbi_none, zbl_none, zbv_none, zbi_ite, zbl_ite, zbv_ite, zbZ, zbO, zc_lt, zc_le, zc_ge, zc_gt, zc_eq, zk0, zk1, zk2, zk3, zk4, zk5, zk6, zk7, zk8, zk9, zk10, zk11, zk12, zk14, zk15, zk16, zk17, zk19, zk20, zk21, zk24, zk25, zk30, zk32, zk36, zk40, zk45, zk50, zk64, zk97, zk99, zk100, zk102, zk122, zk128, zk255, zk800, zk801, zk900, zk999, zk1000, zk1997, zk9999, zk10000, zk100000, zk99999, zk9999999, zk999999999, zk2147483647, zlc0, zlc1, zlc2, zlc3, zlc4, zlc23, zlc99, zlc100, zlc9999999, zlc999999999999, zlc1073741824, zi_neg, zi_add, zi_sub, zi_mul, zl_neg, zl_add, zl_sub, zl_mul, zi_toInt, zi_nat, zi_le, zi_lt, zi_eq, zl_le, zl_lt, zl_eq, zl_toInt, zl_of32, zi_of64, zi_div, zl_div, zmodI, ↓reduceIte, zTle, zFle, zTlt, zFlt, zTeq, zFeq, if_true, if_false, and_self, and_true, true_and, and_false, false_and, or_self, or_true, true_or, or_false, false_or, not_true_eq_false, not_false_eq_true, zcastA, zcastL, znatC, zab, Int.reduceAdd, Int.reduceSub, Int.reduceMul, Int.reduceNeg, Int.reduceToNat, Nat.reduceAdd]
    rw [wrL_cat _ a (B + m) (B + (m + ap)) (List.replicate ap (10, (0 : Int))) (List.replicate ow (11, (0 : Int))) (by rw [List.length_replicate]; omega), wrL_cat _ b (B + m) (B + (m + ap)) (List.replicate ap (10, (0 : Int))) (List.replicate ow (11, (0 : Int))) (by rw [List.length_replicate]; omega)]
end COND

/-! BALLS: the model's search, all of it -/
def lfn (v : Nat) : Nat → Nat
  | 0 => v
  | j + 1 => lfn v j / 10
theorem lfn_le (v : Nat) : ∀ j, lfn v j ≤ v
  | 0 => Nat.le_refl v
  | j + 1 => by
    have := lfn_le v j
    show lfn v j / 10 ≤ v
    omega
theorem vM_lfn {v k : Nat} (hv : v < 100000) (hk : k < 5) : vM v k = ((lfn v k % 10 : Nat) : Int) := by
  have h : k = 0 ∨ k = 1 ∨ k = 2 ∨ k = 3 ∨ k = 4 := by omega
  rcases h with h | h | h | h | h <;> subst h
  · rfl
  · rfl
  · rfl
  · rfl
  · show ((v / 10 / 10 / 10 / 10 : Nat) : Int) = ((v / 10 / 10 / 10 / 10 % 10 : Nat) : Int)
    omega
/-- what the search holds in the model's rows -/
def Sj (A : (Nat → Int) → Prop) (far : (Nat → Int) → Int) (V : Nat) (μ0 μ : zMu) : Prop := ∃ (ways lies : Int) (lo hi : Nat → Int), Sv A far V ways lies lo hi ∧ μ 92 47 = zi ways ∧ (ways ≠ 0 → μ 92 48 = zi lies ∧ ∀ k, k < 5 → μ 123 k = zi (lo k) ∧ μ 124 k = zi (hi k)) ∧ (∀ r, r ≠ 92 → r ≠ 123 → r ≠ 124 → r ≠ 125 → μ r = μ0 r) ∧ ∀ j, j ≠ 47 → j ≠ 48 → μ 92 j = μ0 92 j
theorem Sv_b {A : (Nat → Int) → Prop} {mk : Nat → Int} {n : Nat} {w l : Int} {lo hi : Nat → Int} (h : Sv A (fr mk) n w l lo hi) (hn : n ≤ 100000) (hm : ∀ k, k < 5 → 0 ≤ mk k ∧ mk k ≤ 9) : (0 ≤ w ∧ w ≤ 200000) ∧ (w ≠ 0 → (0 ≤ l ∧ l ≤ 45) ∧ ∀ k, k < 5 → (0 ≤ lo k ∧ lo k ≤ 9) ∧ 0 ≤ hi k ∧ hi k ≤ 9) := by
  obtain ⟨h1, h2⟩ := h
  have vb : ∀ v, v < n → ∀ k, k < 5 → 0 ≤ vM v k ∧ vM v k ≤ 9 := fun v hv k hk => by
    rw [vM_lfn (by omega) hk]
    omega
  refine ⟨⟨?_, ?_⟩, fun q => ⟨?_, fun k hk => ⟨?_, ?_⟩⟩⟩
  · rw [h1]
    exact sm_nn fun v _ => (ind_b _).1
  · have := sm_le (n := n) (f := fun v => ind (A (vM v))) (B := 1) (fun v _ => (ind_b _).2)
    rw [← h1] at this
    omega
  · obtain ⟨⟨v, v1, v2, v3⟩, _⟩ := (h2 q).1
    have z : ∀ k, k < 5 → 0 ≤ ab (vM v k - mk k) ∧ ab (vM v k - mk k) ≤ 9 := fun k hk => ab_b (by
      have := vb v v1 k hk
      have := hm k hk
      omega)
    have z0 := z 0 (by omega)
    have z1 := z 1 (by omega)
    have z2 := z 2 (by omega)
    have z3 := z 3 (by omega)
    have z4 := z 4 (by omega)
    have v3' : fr mk (vM v) = l := v3
    rw [← v3']
    unfold fr
    omega
  · obtain ⟨⟨v, v1, v2, v3⟩, _⟩ := ((h2 q).2 k hk).1
    have v3' : vM v k = lo k := v3
    rw [← v3']
    exact vb v v1 k hk
  · obtain ⟨⟨v, v1, v2, v3⟩, _⟩ := ((h2 q).2 k hk).2
    have v3' : - vM v k = - hi k := v3
    have := vb v v1 k hk
    omega
theorem find_step (d len : Nat) (μ0 μ : zMu) (ν : zNu) (b o ra we : Int) (ins w mk : Nat → Int) (V : Nat) (v3 v4 : Value) (hV : V < 100000) (hB : Bm μ0 b o ra we ins w mk) (hS : Sj (aw o ra we ins w) (fr mk) V μ0 μ) : ∃ (μ' : zMu) (v3' v4' : Value), zE zc_X12_findsBall (zF zT0 (d + 1)) 40 [.ref 92, .int (zi b), .int (zi (V : Int)), v3, v4] [] (zm len μ ν) = zE zc_X12_findsBall (zF zT0 (d + 1)) 40 [.ref 92, .int (zi b), .int (zi ((V + 1 : Nat) : Int)), v3', v4'] [] (zm len μ' ν) ∧ Sj (aw o ra we ins w) (fr mk) (V + 1) μ0 μ' := by
  obtain ⟨ways, lies, lo, hi, hC, s1, s2, s4, s5⟩ := hS
  have hm : ∀ k, k < 5 → 0 ≤ mk k ∧ mk k ≤ 9 := fun k hk => (hB.2.2.2.2.2.2 k hk).2
  obtain ⟨wb, bb⟩ := Sv_b hC (by omega) hm
  obtain ⟨R, p1, p2, p3, p4⟩ := zfill_ex (fun k => zi ((lfn V k % 10 : Nat) : Int)) (μ 125)
  have L := zloop (f := fun j => zE zc_X12_findsBall (zF zT0 (d + 1)) 52 [.ref 92, .int (zi b), .int (zi (V : Int)), .int (zi ((lfn V j : Nat) : Int)), .int (zi (j : Int))] [] (zm len (zrw μ 125 (R j)) ν)) (n := 5) (fun j hj => by
    have := lfn_le V j
    have e1 : ((lfn V j : Nat) : Int) / 10 = ((lfn V (j + 1) : Nat) : Int) := by
      show ((lfn V j : Nat) : Int) / 10 = ((lfn V j / 10 : Nat) : Int)
      omega
    have e2 : ((lfn V j : Nat) : Int) - ((lfn V (j + 1) : Nat) : Int) * 10 = ((lfn V j % 10 : Nat) : Int) := by
      show ((lfn V j : Nat) : Int) - ((lfn V j / 10 : Nat) : Int) * 10 = ((lfn V j % 10 : Nat) : Int)
      omega
    show zE _ _ _ _ _ _ = zE _ _ _ _ _ _
    rw [B_X12_findsBall_52, ← p2 j]
    simp (disch := omega) only [zup_zrw, e1, e2, zbi_some, zbl_some, zbv_some, zbi_none, zbl_none, zbv_none, zbi_ite, zbl_ite, zbv_ite, zbZ, zbO, zc_lt, zc_le, zc_ge, zc_gt, zc_eq, zk0, zk1, zk2, zk3, zk4, zk5, zk6, zk7, zk8, zk9, zk10, zk11, zk12, zk14, zk15, zk16, zk17, zk19, zk20, zk21, zk24, zk25, zk30, zk32, zk36, zk40, zk45, zk50, zk64, zk97, zk99, zk100, zk102, zk122, zk128, zk255, zk800, zk801, zk900, zk999, zk1000, zk1997, zk9999, zk10000, zk100000, zk99999, zk9999999, zk999999999, zk2147483647, zlc0, zlc1, zlc2, zlc3, zlc4, zlc23, zlc99, zlc100, zlc9999999, zlc999999999999, zlc1073741824, zi_neg, zi_add, zi_sub, zi_mul, zl_neg, zl_add, zl_sub, zl_mul, zi_toInt, zi_nat, zi_le, zi_lt, zi_eq, zl_le, zl_lt, zl_eq, zl_toInt, zl_of32, zi_of64, zi_div, zl_div, zmodI, ↓reduceIte, zTle, zFle, zTlt, zFlt, zTeq, zFeq, if_true, if_false, and_self, and_true, true_and, and_false, false_and, or_self, or_true, true_or, or_false, false_or, not_true_eq_false, not_false_eq_true, zcastA, zcastL, znatC, zab, Int.reduceAdd, Int.reduceSub, Int.reduceMul, Int.reduceNeg, Int.reduceToNat, Nat.reduceAdd])
  have L0 : zE zc_X12_findsBall (zF zT0 (d + 1)) 52 [.ref 92, .int (zi b), .int (zi (V : Int)), .int (zi (V : Int)), .int (zi 0)] [] (zm len (zrw μ 125 (R 0)) ν) = zE zc_X12_findsBall (zF zT0 (d + 1)) 52 [.ref 92, .int (zi b), .int (zi (V : Int)), .int (zi ((lfn V 5 : Nat) : Int)), .int (zi 5)] [] (zm len (zrw μ 125 (R 5)) ν) := L
  rw [p1, zrw_id] at L0
  obtain ⟨μ1, hμ1⟩ : ∃ m, m = zrw μ 125 (R 5) := ⟨_, rfl⟩
  rw [← hμ1] at L0
  have r1 : ∀ r, r ≠ 125 → μ1 r = μ r := fun r h => by rw [hμ1, zrw_n _ _ h]
  have hc : ∀ k, k < 5 → μ1 125 k = zi (vM V k) ∧ 0 ≤ vM V k ∧ vM V k ≤ 9 := fun k hk => by
    rw [hμ1, zrw_s, p3 5 k hk, vM_lfn hV hk]
    refine ⟨rfl, ?_⟩
    omega
  have hB1 : Bm μ1 b o ra we ins w mk := Bm_eq hB (fun r hr => by rw [r1 r (by omega), s4 r (by omega) (by omega) (by omega) (by omega)])
  obtain ⟨r, K1, K2⟩ := F_mayBe d len μ1 ν b o ra we ins w mk (vM V) hB1 hc
  have hb := hB.1
  have G : zE zc_X12_findsBall (zF zT0 (d + 1)) 40 [.ref 92, .int (zi b), .int (zi (V : Int)), v3, v4] [] (zm len μ ν) = zE zc_X12_findsBall (zF zT0 (d + 1)) 85 [.ref 92, .int (zi b), .int (zi (V : Int)), .int (zi ((lfn V 5 : Nat) : Int)), .int (zi 5)] [.int (zi r)] (zm len μ1 ν) := by
    rw [B_X12_findsBall_40]
    simp (disch := omega) only [L0, zbi_some, zbl_some, zbv_some, zbi_none, zbl_none, zbv_none, zbi_ite, zbl_ite, zbv_ite, zbZ, zbO, zc_lt, zc_le, zc_ge, zc_gt, zc_eq, zk0, zk1, zk2, zk3, zk4, zk5, zk6, zk7, zk8, zk9, zk10, zk11, zk12, zk14, zk15, zk16, zk17, zk19, zk20, zk21, zk24, zk25, zk30, zk32, zk36, zk40, zk45, zk50, zk64, zk97, zk99, zk100, zk102, zk122, zk128, zk255, zk800, zk801, zk900, zk999, zk1000, zk1997, zk9999, zk10000, zk100000, zk99999, zk9999999, zk999999999, zk2147483647, zlc0, zlc1, zlc2, zlc3, zlc4, zlc23, zlc99, zlc100, zlc9999999, zlc999999999999, zlc1073741824, zi_neg, zi_add, zi_sub, zi_mul, zl_neg, zl_add, zl_sub, zl_mul, zi_toInt, zi_nat, zi_le, zi_lt, zi_eq, zl_le, zl_lt, zl_eq, zl_toInt, zl_of32, zi_of64, zi_div, zl_div, zmodI, ↓reduceIte, zTle, zFle, zTlt, zFlt, zTeq, zFeq, if_true, if_false, and_self, and_true, true_and, and_false, false_and, or_self, or_true, true_or, or_false, false_or, not_true_eq_false, not_false_eq_true, zcastA, zcastL, znatC, zab, Int.reduceAdd, Int.reduceSub, Int.reduceMul, Int.reduceNeg, Int.reduceToNat, Nat.reduceAdd]
    rw [B_X12_findsBall_52]
    simp (disch := omega) only [K1, zbi_some, zbl_some, zbv_some, zbi_none, zbl_none, zbv_none, zbi_ite, zbl_ite, zbv_ite, zbZ, zbO, zc_lt, zc_le, zc_ge, zc_gt, zc_eq, zk0, zk1, zk2, zk3, zk4, zk5, zk6, zk7, zk8, zk9, zk10, zk11, zk12, zk14, zk15, zk16, zk17, zk19, zk20, zk21, zk24, zk25, zk30, zk32, zk36, zk40, zk45, zk50, zk64, zk97, zk99, zk100, zk102, zk122, zk128, zk255, zk800, zk801, zk900, zk999, zk1000, zk1997, zk9999, zk10000, zk100000, zk99999, zk9999999, zk999999999, zk2147483647, zlc0, zlc1, zlc2, zlc3, zlc4, zlc23, zlc99, zlc100, zlc9999999, zlc999999999999, zlc1073741824, zi_neg, zi_add, zi_sub, zi_mul, zl_neg, zl_add, zl_sub, zl_mul, zi_toInt, zi_nat, zi_le, zi_lt, zi_eq, zl_le, zl_lt, zl_eq, zl_toInt, zl_of32, zi_of64, zi_div, zl_div, zmodI, ↓reduceIte, zTle, zFle, zTlt, zFlt, zTeq, zFeq, if_true, if_false, and_self, and_true, true_and, and_false, false_and, or_self, or_true, true_or, or_false, false_or, not_true_eq_false, not_false_eq_true, zcastA, zcastL, znatC, zab, Int.reduceAdd, Int.reduceSub, Int.reduceMul, Int.reduceNeg, Int.reduceToNat, Nat.reduceAdd]
  rw [G, B_X12_findsBall_85]
  rcases K2 with ⟨q, hA⟩ | ⟨q, hA⟩
  · refine ⟨μ1, .int (zi ((lfn V 5 : Nat) : Int)), .int (zi 5), ?_, ways, lies, lo, hi, Sv_skip hA hC, by rw [r1 92 (by decide)]; exact s1, fun z => ?_, fun r h1 h2 h3 h4 => by rw [r1 r h4]; exact s4 r h1 h2 h3 h4, fun j h1 h2 => by rw [r1 92 (by decide)]; exact s5 j h1 h2⟩
    · simp (disch := omega) only [q, B_X12_findsBall_93, zbi_some, zbl_some, zbv_some, zbi_none, zbl_none, zbv_none, zbi_ite, zbl_ite, zbv_ite, zbZ, zbO, zc_lt, zc_le, zc_ge, zc_gt, zc_eq, zk0, zk1, zk2, zk3, zk4, zk5, zk6, zk7, zk8, zk9, zk10, zk11, zk12, zk14, zk15, zk16, zk17, zk19, zk20, zk21, zk24, zk25, zk30, zk32, zk36, zk40, zk45, zk50, zk64, zk97, zk99, zk100, zk102, zk122, zk128, zk255, zk800, zk801, zk900, zk999, zk1000, zk1997, zk9999, zk10000, zk100000, zk99999, zk9999999, zk999999999, zk2147483647, zlc0, zlc1, zlc2, zlc3, zlc4, zlc23, zlc99, zlc100, zlc9999999, zlc999999999999, zlc1073741824, zi_neg, zi_add, zi_sub, zi_mul, zl_neg, zl_add, zl_sub, zl_mul, zi_toInt, zi_nat, zi_le, zi_lt, zi_eq, zl_le, zl_lt, zl_eq, zl_toInt, zl_of32, zi_of64, zi_div, zl_div, zmodI, ↓reduceIte, zTle, zFle, zTlt, zFlt, zTeq, zFeq, if_true, if_false, and_self, and_true, true_and, and_false, false_and, or_self, or_true, true_or, or_false, false_or, not_true_eq_false, not_false_eq_true, zcastA, zcastL, znatC, zab, Int.reduceAdd, Int.reduceSub, Int.reduceMul, Int.reduceNeg, Int.reduceToNat, Nat.reduceAdd]
    · rw [r1 92 (by decide), r1 123 (by decide), r1 124 (by decide)]
      exact s2 z
  · obtain ⟨μ2, a1, a2, a3, a4, a5, a6⟩ := F_notes d len μ1 ν b ways lies mk (vM V) lo hi hb hB1.2.2.2.2.2.2 hc (by rw [r1 92 (by decide)]; exact s1) wb (fun z => by
      rw [r1 92 (by decide), r1 123 (by decide), r1 124 (by decide)]
      have g := s2 z
      have g2 := bb z
      exact ⟨⟨g.1, g2.1⟩, fun k hk => ⟨⟨(g.2 k hk).1, (g2.2 k hk).1⟩, (g.2 k hk).2, (g2.2 k hk).2⟩⟩)
    refine ⟨μ2, .int (zi ((lfn V 5 : Nat) : Int)), .int (zi 5), ?_, _, _, _, _, Sv_take hA hC, a4, fun _ => ⟨a5, a6⟩, fun r h1 h2 h3 h4 => by rw [a2 r h1 h2 h3, r1 r h4]; exact s4 r h1 h2 h3 h4, fun j h1 h2 => by rw [a3 j h1 h2, r1 92 (by decide)]; exact s5 j h1 h2⟩
    simp (disch := omega) only [q, a1, B_X12_findsBall_93, zbi_some, zbl_some, zbv_some, zbi_none, zbl_none, zbv_none, zbi_ite, zbl_ite, zbv_ite, zbZ, zbO, zc_lt, zc_le, zc_ge, zc_gt, zc_eq, zk0, zk1, zk2, zk3, zk4, zk5, zk6, zk7, zk8, zk9, zk10, zk11, zk12, zk14, zk15, zk16, zk17, zk19, zk20, zk21, zk24, zk25, zk30, zk32, zk36, zk40, zk45, zk50, zk64, zk97, zk99, zk100, zk102, zk122, zk128, zk255, zk800, zk801, zk900, zk999, zk1000, zk1997, zk9999, zk10000, zk100000, zk99999, zk9999999, zk999999999, zk2147483647, zlc0, zlc1, zlc2, zlc3, zlc4, zlc23, zlc99, zlc100, zlc9999999, zlc999999999999, zlc1073741824, zi_neg, zi_add, zi_sub, zi_mul, zl_neg, zl_add, zl_sub, zl_mul, zi_toInt, zi_nat, zi_le, zi_lt, zi_eq, zl_le, zl_lt, zl_eq, zl_toInt, zl_of32, zi_of64, zi_div, zl_div, zmodI, ↓reduceIte, zTle, zFle, zTlt, zFlt, zTeq, zFeq, if_true, if_false, and_self, and_true, true_and, and_false, false_and, or_self, or_true, true_or, or_false, false_or, not_true_eq_false, not_false_eq_true, zcastA, zcastL, znatC, zab, Int.reduceAdd, Int.reduceSub, Int.reduceMul, Int.reduceNeg, Int.reduceToNat, Nat.reduceAdd]
theorem find_loop (d len : Nat) (μ0 : zMu) (ν : zNu) (b o ra we : Int) (ins w mk : Nat → Int) (hB : Bm μ0 b o ra we ins w mk) : ∀ (n V : Nat) (μ : zMu) (v3 v4 : Value), V + n = 100000 → Sj (aw o ra we ins w) (fr mk) V μ0 μ → ∃ μ' : zMu, zE zc_X12_findsBall (zF zT0 (d + 1)) 40 [.ref 92, .int (zi b), .int (zi (V : Int)), v3, v4] [] (zm len μ ν) = some (.null, zm len μ' ν) ∧ Sj (aw o ra we ins w) (fr mk) 100000 μ0 μ' := by
  intro n
  induction n with
  | zero =>
    intro V μ v3 v4 hV hS
    have e : V = 100000 := by omega
    subst e
    refine ⟨μ, ?_, hS⟩
    rw [B_X12_findsBall_40]
    simp (disch := omega) only [zbi_some, zbl_some, zbv_some, zbi_none, zbl_none, zbv_none, zbi_ite, zbl_ite, zbv_ite, zbZ, zbO, zc_lt, zc_le, zc_ge, zc_gt, zc_eq, zk0, zk1, zk2, zk3, zk4, zk5, zk6, zk7, zk8, zk9, zk10, zk11, zk12, zk14, zk15, zk16, zk17, zk19, zk20, zk21, zk24, zk25, zk30, zk32, zk36, zk40, zk45, zk50, zk64, zk97, zk99, zk100, zk102, zk122, zk128, zk255, zk800, zk801, zk900, zk999, zk1000, zk1997, zk9999, zk10000, zk100000, zk99999, zk9999999, zk999999999, zk2147483647, zlc0, zlc1, zlc2, zlc3, zlc4, zlc23, zlc99, zlc100, zlc9999999, zlc999999999999, zlc1073741824, zi_neg, zi_add, zi_sub, zi_mul, zl_neg, zl_add, zl_sub, zl_mul, zi_toInt, zi_nat, zi_le, zi_lt, zi_eq, zl_le, zl_lt, zl_eq, zl_toInt, zl_of32, zi_of64, zi_div, zl_div, zmodI, ↓reduceIte, zTle, zFle, zTlt, zFlt, zTeq, zFeq, if_true, if_false, and_self, and_true, true_and, and_false, false_and, or_self, or_true, true_or, or_false, false_or, not_true_eq_false, not_false_eq_true, zcastA, zcastL, znatC, zab, Int.reduceAdd, Int.reduceSub, Int.reduceMul, Int.reduceNeg, Int.reduceToNat, Nat.reduceAdd]
  | succ n ih =>
    intro V μ v3 v4 hV hS
    obtain ⟨μ1, v3', v4', h1, h2⟩ := find_step d len μ0 μ ν b o ra we ins w mk V v3 v4 (by omega) hB hS
    rw [h1]
    exact ih (V + 1) μ1 v3' v4' (by omega) h2
/-- from 20 on: a search anew -/
theorem find_new (d len : Nat) (μ : zMu) (ν : zNu) (b o ra we vs : Int) (ins w mk : Nat → Int) (v2 v3 v4 : Value) (hB : Bm μ b o ra we ins w mk) (hv : μ 92 44 = zi vs) : ∃ (μ' : zMu) (ways lies : Int) (lo hi : Nat → Int), zE zc_X12_findsBall (zF zT0 (d + 1)) 20 [.ref 92, .int (zi b), v2, v3, v4] [] (zm len μ ν) = some (.null, zm len μ' ν) ∧ Sv (aw o ra we ins w) (fr mk) 100000 ways lies lo hi ∧ μ' 92 47 = zi ways ∧ (ways ≠ 0 → μ' 92 48 = zi lies ∧ ∀ k, k < 5 → μ' 123 k = zi (lo k) ∧ μ' 124 k = zi (hi k)) ∧ μ' 92 45 = zi b ∧ μ' 92 46 = zi vs ∧ (∀ r, r ≠ 92 → r ≠ 123 → r ≠ 124 → r ≠ 125 → μ' r = μ r) ∧ ∀ j, j ≠ 45 → j ≠ 46 → j ≠ 47 → j ≠ 48 → μ' 92 j = μ 92 j := by
  obtain ⟨μ1, hμ1⟩ : ∃ m, m = zup (zup (zup μ 92 45 (zi b)) 92 46 (zi vs)) 92 47 (zi 0) := ⟨_, rfl⟩
  have r1 : ∀ r, r ≠ 92 → μ1 r = μ r := fun r h => by rw [hμ1, zup_ne _ _ _ h, zup_ne _ _ _ h, zup_ne _ _ _ h]
  have hB1 : Bm μ1 b o ra we ins w mk := Bm_eq hB (fun r hr => r1 r (by omega))
  have S0 : Sj (aw o ra we ins w) (fr mk) 0 μ1 μ1 := ⟨0, 0, fun _ => 0, fun _ => 0, Sv_0 _ _ _ _ _, by rw [hμ1]; rfl, fun h => absurd rfl h, fun r _ _ _ _ => rfl, fun j _ _ => rfl⟩
  obtain ⟨μ2, K, ways, lies, lo, hi, hC, s1, s2, s4, s5⟩ := find_loop d len μ1 ν b o ra we ins w mk hB1 100000 0 μ1 v3 v4 (by omega) S0
  refine ⟨μ2, ways, lies, lo, hi, ?_, hC, s1, s2, ?_, ?_, fun r h1 h2 h3 h4 => ?_, fun j h1 h2 h3 h4 => ?_⟩
  · rw [B_X12_findsBall_20, hv, ← K, hμ1]
    rfl
  · rw [s5 45 (by decide) (by decide), hμ1]
    rfl
  · rw [s5 46 (by decide) (by decide), hμ1]
    rfl
  · rw [s4 r h1 h2 h3 h4]
    exact r1 r h1
  · rw [s5 j h3 h4, hμ1, zup_self, upd_ne _ _ h3, zup_self, upd_ne _ _ h2, zup_self, upd_ne _ _ h1]

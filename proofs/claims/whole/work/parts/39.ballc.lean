/-! BALLS: the class's survey -/
theorem zfill_ex (A B : Nat → Int32) : ∃ R : Nat → Nat → Int32, R 0 = B ∧ (∀ j, upd (R j) j (A j) = R (j + 1)) ∧ (∀ j i, i < j → R j i = A i) ∧ ∀ j i, j ≤ i → R j i = B i := by
  refine ⟨fun j i => if i < j then A i else B i, ?_, fun j => ?_, fun j i h => if_pos h, fun j i h => if_neg (by omega)⟩
  · funext i
    exact if_neg (by omega)
  · funext i
    show (if i = j then A j else if i < j then A i else B i) = if i < j + 1 then A i else B i
    by_cases q : i = j
    · rw [if_pos q, if_pos (by omega), q]
    · rw [if_neg q]
      by_cases w : i < j
      · rw [if_pos w, if_pos (by omega)]
      · rw [if_neg w, if_neg (by omega)]
def mn (x y : Int) : Int := if x < y then x else y
def mx (x y : Int) : Int := if x < y then y else x
theorem zi_mn (x y : Int) : zi (if x < y then x else y) = zi (mn x y) := rfl
theorem zi_mx (x y : Int) : zi (if x < y then y else x) = zi (mx x y) := rfl
theorem sm_b {f : Nat → Int} {B : Int} {n : Nat} (h : ∀ j, j < n → 0 ≤ f j ∧ f j ≤ B) : 0 ≤ sm n f ∧ sm n f ≤ n * B := ⟨sm_nn fun j hj => (h j hj).1, sm_le fun j hj => (h j hj).2⟩
theorem ab_b {x : Int} (h : -9 ≤ x ∧ x ≤ 9) : 0 ≤ ab x ∧ ab x ≤ 9 := by unfold ab; split <;> omega
set_option maxHeartbeats 4000000 in
theorem F_admit (d len : Nat) (μ : zMu) (ν : zNu) (b fm to wys ls : Int) (mk t lo hi : Nat → Int) (hb : 0 ≤ b ∧ b < 8) (h37 : ∀ k : Nat, k < 5 → μ 37 (b * 5 + (k : Int)).toNat = zi (mk k)) (h37b : ∀ k, k < 5 → 0 ≤ mk k ∧ mk k ≤ 9) (h44 : ∀ k, k < 4 → μ 44 k = zi (t k)) (h44b : ∀ k, k < 4 → 0 ≤ t k ∧ t k ≤ 9) (h42 : ∀ k, k < 5 → μ 42 k = zi (lo k)) (h42b : ∀ k, k < 5 → 0 ≤ lo k ∧ lo k ≤ 9) (h43 : ∀ k, k < 5 → μ 43 k = zi (hi k)) (h43b : ∀ k, k < 5 → 0 ≤ hi k ∧ hi k ≤ 9) (hf : 0 ≤ fm ∧ fm ≤ to) (ht : to ≤ 9) (hw : μ 35 6 = zi wys) (hwb : 0 ≤ wys ∧ wys ≤ 200000) (hl : μ 35 7 = zi ls) (hlb : -1 ≤ ls ∧ ls ≤ 45) : ∃ μ' : zMu, zF zT0 (d + 1) 9 [.ref 35, .int (zi b), .int (zi fm), .int (zi to)] (zm len μ ν) = some (.null, zm len μ' ν) ∧ (∀ r, r ≠ 35 → r ≠ 42 → r ≠ 43 → μ' r = μ r) ∧ (∀ j, j ≠ 6 → j ≠ 7 → μ' 35 j = μ 35 j) ∧ (∀ k, k < 4 → μ' 42 k = zi (mn (t k) (lo k)) ∧ μ' 43 k = zi (mx (hi k) (t k))) ∧ μ' 42 4 = zi (mn fm (lo 4)) ∧ μ' 43 4 = zi (mx (hi 4) to) ∧ μ' 35 6 = zi (wys + (to - fm + 1)) ∧ μ' 35 7 = zi (if wys = 0 then sm 4 (fun k => ab (mk k - t k)) + mx 0 (mx (fm - mk 4) (mk 4 - to)) else mn (sm 4 (fun k => ab (mk k - t k)) + mx 0 (mx (fm - mk 4) (mk 4 - to))) ls) := by
  obtain ⟨R2, p1, p2, p3, p4⟩ := zfill_ex (fun k => zi (mn (t k) (lo k))) (μ 42)
  obtain ⟨R3, q1, q2, q3, q4⟩ := zfill_ex (fun k => zi (mx (hi k) (t k))) (μ 43)
  have r2 : ∀ j, j < 5 → R2 j j = zi (lo j) := fun j hj => by rw [p4 j j (by omega), h42 j hj]
  have r3 : ∀ j, j < 5 → R3 j j = zi (hi j) := fun j hj => by rw [q4 j j (by omega), h43 j hj]
  have L := zloop (f := fun j => zE zc_X0_admit (zF zT0 d) 6 [.ref 35, .int (zi b), .int (zi fm), .int (zi to), .int (zi (sm j (fun k => ab (mk k - t k)))), .int (zi (j : Int))] [] (zm len (zrw (zrw μ 42 (R2 j)) 43 (R3 j)) ν)) (n := 4) (fun j hj => by
    have m1 := h37b j (by omega)
    have m2 := h44b j (by omega)
    have m3 := h42b j (by omega)
    have m4 := h43b j (by omega)
    show zE _ _ _ _ _ _ = zE _ _ _ _ _ _
    rw [B_X0_admit_6, ← p2 j, ← q2 j]
    simp only [zrw_s, zrw_n _ _ (show (42 : Nat) ≠ 43 by decide), zrw_n _ _ (show (44 : Nat) ≠ 43 by decide), zrw_n _ _ (show (44 : Nat) ≠ 42 by decide), zrw_n _ _ (show (37 : Nat) ≠ 43 by decide), zrw_n _ _ (show (37 : Nat) ≠ 42 by decide)]
    simp (disch := omega) only [h37 j (by omega), h44 j hj, r2 j (by omega), r3 j (by omega), Int.zero_sub, zi_ite, zi_mn, zi_mx, B_X0_admit_87, zup_zrw, zup_zrw_n _ _ _ _ (show (43 : Nat) ≠ 42 by decide), zbi_some, zbl_some, zbv_some, zbi_none, zbl_none, zbv_none, zbi_ite, zbl_ite, zbv_ite, zbZ, zbO, zc_lt, zc_le, zc_ge, zc_gt, zc_eq, zk0, zk1, zk2, zk3, zk4, zk5, zk6, zk7, zk8, zk9, zk10, zk11, zk12, zk14, zk15, zk16, zk17, zk19, zk20, zk21, zk24, zk25, zk30, zk32, zk36, zk40, zk45, zk50, zk64, zk97, zk99, zk100, zk102, zk122, zk128, zk255, zk800, zk801, zk900, zk999, zk1000, zk1997, zk9999, zk10000, zk100000, zk99999, zk9999999, zk999999999, zk2147483647, zlc0, zlc1, zlc2, zlc3, zlc4, zlc23, zlc99, zlc100, zlc9999999, zlc999999999999, zlc1073741824, zi_neg, zi_add, zi_sub, zi_mul, zl_neg, zl_add, zl_sub, zl_mul, zi_toInt, zi_nat, zi_le, zi_lt, zi_eq, zl_le, zl_lt, zl_eq, zl_toInt, zl_of32, zi_of64, zi_div, zl_div, zmodI, ↓reduceIte, zTle, zFle, zTlt, zFlt, zTeq, zFeq, if_true, if_false, and_self, and_true, true_and, and_false, false_and, or_self, or_true, true_or, or_false, false_or, not_true_eq_false, not_false_eq_true, zcastA, zcastL, znatC, zab, Int.reduceAdd, Int.reduceSub, Int.reduceMul, Int.reduceNeg, Int.reduceToNat, Nat.reduceAdd]
    rfl)
  have sb := sm_b (n := 4) (f := fun k => ab (mk k - t k)) (B := 9) (fun j hj => ab_b (by have := h37b j (by omega); have := h44b j hj; omega))
  have z1 := h37b 4 (by omega)
  have z2 := h42b 4 (by omega)
  have z3 := h43b 4 (by omega)
  obtain ⟨s, hs⟩ : ∃ s, s = sm 4 (fun k => ab (mk k - t k)) := ⟨_, rfl⟩
  have e37 : μ 37 (b * 5 + 4).toNat = zi (mk 4) := h37 4 (by omega)
  have bl : -100 ≤ mx 0 (mx (fm - mk 4) (mk 4 - to)) ∧ mx 0 (mx (fm - mk 4) (mk 4 - to)) ≤ 100 := by
    unfold mx
    constructor <;> (repeat' split) <;> omega
  obtain ⟨x, hx⟩ : ∃ x, x = mx 0 (mx (fm - mk 4) (mk 4 - to)) := ⟨_, rfl⟩
  have bl2 : -100 ≤ mx (fm - mk 4) (mk 4 - to) ∧ mx (fm - mk 4) (mk 4 - to) ≤ 100 := by
    unfold mx
    constructor <;> split <;> omega
  rw [← hs] at sb ⊢
  rw [← hx] at bl ⊢
  obtain ⟨M4, hM4⟩ : ∃ M, M = zrw (zrw μ 42 (upd (R2 4) 4 (zi (mn fm (lo 4))))) 43 (upd (R3 4) 4 (zi (mx (hi 4) to))) := ⟨_, rfl⟩
  have M4r : ∀ r, r ≠ 42 → r ≠ 43 → M4 r = μ r := fun r a b => by rw [hM4, zrw_n _ _ b, zrw_n _ _ a]
  have E : zE zc_X0_admit (zF zT0 d) 6 [.ref 35, .int (zi b), .int (zi fm), .int (zi to), .int (zi s), .int (zi 4)] [] (zm len (zrw (zrw μ 42 (R2 4)) 43 (R3 4)) ν) = some (.null, zm len (zup (zup M4 35 7 (zi (if wys = 0 then s + x else mn (s + x) ls))) 35 6 (zi (wys + (to - fm + 1)))) ν) := by
    rw [B_X0_admit_6]
    simp only [zrw_s, zrw_n _ _ (show (42 : Nat) ≠ 43 by decide), zrw_n _ _ (show (35 : Nat) ≠ 43 by decide), zrw_n _ _ (show (35 : Nat) ≠ 42 by decide), zrw_n _ _ (show (37 : Nat) ≠ 43 by decide), zrw_n _ _ (show (37 : Nat) ≠ 42 by decide), hw, hl]
    by_cases c : wys = 0
    · simp (disch := omega) only [e37, r2 4 (by omega), r3 4 (by omega), zi_ite, zi_mn, zi_mx, ← hx, c, zup_zrw, zup_zrw_n _ _ _ _ (show (43 : Nat) ≠ 42 by decide), ← hM4, B_X0_admit_179, M4r 35 (by decide) (by decide), hw, zbi_some, zbl_some, zbv_some, zbi_none, zbl_none, zbv_none, zbi_ite, zbl_ite, zbv_ite, zbZ, zbO, zc_lt, zc_le, zc_ge, zc_gt, zc_eq, zk0, zk1, zk2, zk3, zk4, zk5, zk6, zk7, zk8, zk9, zk10, zk11, zk12, zk14, zk15, zk16, zk17, zk19, zk20, zk21, zk24, zk25, zk30, zk32, zk36, zk40, zk45, zk50, zk64, zk97, zk99, zk100, zk102, zk122, zk128, zk255, zk800, zk801, zk900, zk999, zk1000, zk1997, zk9999, zk10000, zk100000, zk99999, zk9999999, zk999999999, zk2147483647, zlc0, zlc1, zlc2, zlc3, zlc4, zlc23, zlc99, zlc100, zlc9999999, zlc999999999999, zlc1073741824, zi_neg, zi_add, zi_sub, zi_mul, zl_neg, zl_add, zl_sub, zl_mul, zi_toInt, zi_nat, zi_le, zi_lt, zi_eq, zl_le, zl_lt, zl_eq, zl_toInt, zl_of32, zi_of64, zi_div, zl_div, zmodI, ↓reduceIte, zTle, zFle, zTlt, zFlt, zTeq, zFeq, if_true, if_false, and_self, and_true, true_and, and_false, false_and, or_self, or_true, true_or, or_false, false_or, not_true_eq_false, not_false_eq_true, zcastA, zcastL, znatC, zab, Int.reduceAdd, Int.reduceSub, Int.reduceMul, Int.reduceNeg, Int.reduceToNat, Nat.reduceAdd]
    · simp (disch := omega) only [e37, r2 4 (by omega), r3 4 (by omega), zi_ite, zi_mn, zi_mx, ← hx, c, zup_zrw, zup_zrw_n _ _ _ _ (show (43 : Nat) ≠ 42 by decide), ← hM4, B_X0_admit_179, M4r 35 (by decide) (by decide), hw, zbi_some, zbl_some, zbv_some, zbi_none, zbl_none, zbv_none, zbi_ite, zbl_ite, zbv_ite, zbZ, zbO, zc_lt, zc_le, zc_ge, zc_gt, zc_eq, zk0, zk1, zk2, zk3, zk4, zk5, zk6, zk7, zk8, zk9, zk10, zk11, zk12, zk14, zk15, zk16, zk17, zk19, zk20, zk21, zk24, zk25, zk30, zk32, zk36, zk40, zk45, zk50, zk64, zk97, zk99, zk100, zk102, zk122, zk128, zk255, zk800, zk801, zk900, zk999, zk1000, zk1997, zk9999, zk10000, zk100000, zk99999, zk9999999, zk999999999, zk2147483647, zlc0, zlc1, zlc2, zlc3, zlc4, zlc23, zlc99, zlc100, zlc9999999, zlc999999999999, zlc1073741824, zi_neg, zi_add, zi_sub, zi_mul, zl_neg, zl_add, zl_sub, zl_mul, zi_toInt, zi_nat, zi_le, zi_lt, zi_eq, zl_le, zl_lt, zl_eq, zl_toInt, zl_of32, zi_of64, zi_div, zl_div, zmodI, ↓reduceIte, zTle, zFle, zTlt, zFlt, zTeq, zFeq, if_true, if_false, and_self, and_true, true_and, and_false, false_and, or_self, or_true, true_or, or_false, false_or, not_true_eq_false, not_false_eq_true, zcastA, zcastL, znatC, zab, Int.reduceAdd, Int.reduceSub, Int.reduceMul, Int.reduceNeg, Int.reduceToNat, Nat.reduceAdd]
  refine ⟨zup (zup M4 35 7 (zi (if wys = 0 then s + x else mn (s + x) ls))) 35 6 (zi (wys + (to - fm + 1))), ?_, fun r a1 a2 a3 => ?_, fun j a1 a2 => ?_, fun k hk => ⟨?_, ?_⟩, ?_, ?_, ?_, ?_⟩
  · rw [B_X0_admit]
    have L0 : zE zc_X0_admit (zF zT0 d) 6 [.ref 35, .int (zi b), .int (zi fm), .int (zi to), .int (zi 0), .int (zi 0)] [] (zm len (zrw (zrw μ 42 (R2 0)) 43 (R3 0)) ν) = _ := L
    rw [p1, q1, zrw_id, zrw_id, ← hs] at L0
    exact L0.trans E
  · rw [zup_ne _ _ _ a1, zup_ne _ _ _ a1, M4r r a2 a3]
  · rw [zup_self, upd_ne _ _ a1, zup_self, upd_ne _ _ a2, M4r 35 (by decide) (by decide)]
  · rw [zup_ne _ _ _ (by decide), zup_ne _ _ _ (by decide), hM4, zrw_n _ _ (by decide), zrw_s, upd_ne _ _ (by omega), p3 4 k hk]
  · rw [zup_ne _ _ _ (by decide), zup_ne _ _ _ (by decide), hM4, zrw_s, upd_ne _ _ (by omega), q3 4 k hk]
  · rw [zup_ne _ _ _ (by decide), zup_ne _ _ _ (by decide), hM4, zrw_n _ _ (by decide), zrw_s, upd_eq]
  · rw [zup_ne _ _ _ (by decide), zup_ne _ _ _ (by decide), hM4, zrw_s, upd_eq]
  · rw [zup_self, upd_eq]
  · rw [zup_self, upd_ne _ _ (by decide), zup_self, upd_eq]
theorem zi_tdiv {a b : Int} (h : (-2147483647 ≤ a ∧ a < 2147483648) ∧ 0 < b ∧ b < 2147483648) : zi a / zi b = zi (a.tdiv b) := (Int32.ofInt_tdiv (a := a) (b := b) (by show (-2147483648 : Int) ≤ a; omega) (by show a ≤ (2147483647 : Int); omega) (by show (-2147483648 : Int) ≤ b; omega) (by show b ≤ (2147483647 : Int); omega)).symm
/-- what the other KINDS leave for the last one -/
theorem try_a (d len : Nat) (μ : zMu) (ν : zNu) (b ra : Int) (t : Nat → Int) (hb : 0 ≤ b ∧ b < 8) (hra : μ 39 b.toNat = zi ra) (hrb : -1 ≤ ra ∧ ra ≤ 45) (h44 : ∀ k, k < 4 → μ 44 k = zi (t k)) (h44b : ∀ k, k < 4 → 0 ≤ t k ∧ t k ≤ 9) : ∃ v4 v5 : Value, zF zT0 (d + 2) 8 [.ref 35, .int (zi b)] (zm len μ ν) = zE zc_X0_tryLastKind (zF zT0 (d + 1)) 64 [.ref 35, .int (zi b), .int (zi (if ra = -1 then 0 else mx 0 (ra - sm 4 t))), .int (zi (if ra = -1 then 9 else mn (ra - sm 4 t) 9)), v4, v5] [] (zm len μ ν) := by
  by_cases c : ra = -1
  · refine ⟨zU, zU, ?_⟩
    rw [B_X0_tryLastKind]
    simp (disch := omega) only [c, hra, zbi_some, zbl_some, zbv_some, zbi_none, zbl_none, zbv_none, zbi_ite, zbl_ite, zbv_ite, zbZ, zbO, zc_lt, zc_le, zc_ge, zc_gt, zc_eq, zk0, zk1, zk2, zk3, zk4, zk5, zk6, zk7, zk8, zk9, zk10, zk11, zk12, zk14, zk15, zk16, zk17, zk19, zk20, zk21, zk24, zk25, zk30, zk32, zk36, zk40, zk45, zk50, zk64, zk97, zk99, zk100, zk102, zk122, zk128, zk255, zk800, zk801, zk900, zk999, zk1000, zk1997, zk9999, zk10000, zk100000, zk99999, zk9999999, zk999999999, zk2147483647, zlc0, zlc1, zlc2, zlc3, zlc4, zlc23, zlc99, zlc100, zlc9999999, zlc999999999999, zlc1073741824, zi_neg, zi_add, zi_sub, zi_mul, zl_neg, zl_add, zl_sub, zl_mul, zi_toInt, zi_nat, zi_le, zi_lt, zi_eq, zl_le, zl_lt, zl_eq, zl_toInt, zl_of32, zi_of64, zi_div, zl_div, zmodI, ↓reduceIte, zTle, zFle, zTlt, zFlt, zTeq, zFeq, if_true, if_false, and_self, and_true, true_and, and_false, false_and, or_self, or_true, true_or, or_false, false_or, not_true_eq_false, not_false_eq_true, zcastA, zcastL, znatC, zab, Int.reduceAdd, Int.reduceSub, Int.reduceMul, Int.reduceNeg, Int.reduceToNat, Nat.reduceAdd]
  · have L := zloop (f := fun j => zE zc_X0_tryLastKind (zF zT0 (d + 1)) 26 [.ref 35, .int (zi b), .int (zi 0), .int (zi 9), .int (zi (ra - sm j t)), .int (zi (j : Int))] [] (zm len μ ν)) (n := 4) (fun j hj => by
      show zE _ _ _ _ _ _ = zE _ _ _ _ _ _
      rw [B_X0_tryLastKind_26]
      simp (disch := omega) only [h44 j hj, sm_S, Int.sub_sub, zbi_some, zbl_some, zbv_some, zbi_none, zbl_none, zbv_none, zbi_ite, zbl_ite, zbv_ite, zbZ, zbO, zc_lt, zc_le, zc_ge, zc_gt, zc_eq, zk0, zk1, zk2, zk3, zk4, zk5, zk6, zk7, zk8, zk9, zk10, zk11, zk12, zk14, zk15, zk16, zk17, zk19, zk20, zk21, zk24, zk25, zk30, zk32, zk36, zk40, zk45, zk50, zk64, zk97, zk99, zk100, zk102, zk122, zk128, zk255, zk800, zk801, zk900, zk999, zk1000, zk1997, zk9999, zk10000, zk100000, zk99999, zk9999999, zk999999999, zk2147483647, zlc0, zlc1, zlc2, zlc3, zlc4, zlc23, zlc99, zlc100, zlc9999999, zlc999999999999, zlc1073741824, zi_neg, zi_add, zi_sub, zi_mul, zl_neg, zl_add, zl_sub, zl_mul, zi_toInt, zi_nat, zi_le, zi_lt, zi_eq, zl_le, zl_lt, zl_eq, zl_toInt, zl_of32, zi_of64, zi_div, zl_div, zmodI, ↓reduceIte, zTle, zFle, zTlt, zFlt, zTeq, zFeq, if_true, if_false, and_self, and_true, true_and, and_false, false_and, or_self, or_true, true_or, or_false, false_or, not_true_eq_false, not_false_eq_true, zcastA, zcastL, znatC, zab, Int.reduceAdd, Int.reduceSub, Int.reduceMul, Int.reduceNeg, Int.reduceToNat, Nat.reduceAdd])
    have L0 : zE zc_X0_tryLastKind (zF zT0 (d + 1)) 26 [.ref 35, .int (zi b), .int (zi 0), .int (zi 9), .int (zi (ra - 0)), .int (zi 0)] [] (zm len μ ν) = zE zc_X0_tryLastKind (zF zT0 (d + 1)) 26 [.ref 35, .int (zi b), .int (zi 0), .int (zi 9), .int (zi (ra - sm 4 t)), .int (zi 4)] [] (zm len μ ν) := L
    rw [Int.sub_zero] at L0
    have sb := sm_b (n := 4) (f := t) (B := 9) (fun j hj => h44b j hj)
    obtain ⟨s, hs⟩ : ∃ s, s = sm 4 t := ⟨_, rfl⟩
    rw [← hs] at L0 sb ⊢
    refine ⟨.int (zi (ra - s)), .int (zi 4), ?_⟩
    have G : zF zT0 (d + 2) 8 [.ref 35, .int (zi b)] (zm len μ ν) = zE zc_X0_tryLastKind (zF zT0 (d + 1)) 26 [.ref 35, .int (zi b), .int (zi 0), .int (zi 9), .int (zi ra), .int (zi 0)] [] (zm len μ ν) := by
      rw [B_X0_tryLastKind]
      simp (disch := omega) only [c, hra, zbi_some, zbl_some, zbv_some, zbi_none, zbl_none, zbv_none, zbi_ite, zbl_ite, zbv_ite, zbZ, zbO, zc_lt, zc_le, zc_ge, zc_gt, zc_eq, zk0, zk1, zk2, zk3, zk4, zk5, zk6, zk7, zk8, zk9, zk10, zk11, zk12, zk14, zk15, zk16, zk17, zk19, zk20, zk21, zk24, zk25, zk30, zk32, zk36, zk40, zk45, zk50, zk64, zk97, zk99, zk100, zk102, zk122, zk128, zk255, zk800, zk801, zk900, zk999, zk1000, zk1997, zk9999, zk10000, zk100000, zk99999, zk9999999, zk999999999, zk2147483647, zlc0, zlc1, zlc2, zlc3, zlc4, zlc23, zlc99, zlc100, zlc9999999, zlc999999999999, zlc1073741824, zi_neg, zi_add, zi_sub, zi_mul, zl_neg, zl_add, zl_sub, zl_mul, zi_toInt, zi_nat, zi_le, zi_lt, zi_eq, zl_le, zl_lt, zl_eq, zl_toInt, zl_of32, zi_of64, zi_div, zl_div, zmodI, ↓reduceIte, zTle, zFle, zTlt, zFlt, zTeq, zFeq, if_true, if_false, and_self, and_true, true_and, and_false, false_and, or_self, or_true, true_or, or_false, false_or, not_true_eq_false, not_false_eq_true, zcastA, zcastL, znatC, zab, Int.reduceAdd, Int.reduceSub, Int.reduceMul, Int.reduceNeg, Int.reduceToNat, Nat.reduceAdd]
    rw [G, L0, B_X0_tryLastKind_26]
    simp (disch := omega) only [c, zi_ite, zi_mx, zi_mn, zbi_some, zbl_some, zbv_some, zbi_none, zbl_none, zbv_none, zbi_ite, zbl_ite, zbv_ite, zbZ, zbO, zc_lt, zc_le, zc_ge, zc_gt, zc_eq, zk0, zk1, zk2, zk3, zk4, zk5, zk6, zk7, zk8, zk9, zk10, zk11, zk12, zk14, zk15, zk16, zk17, zk19, zk20, zk21, zk24, zk25, zk30, zk32, zk36, zk40, zk45, zk50, zk64, zk97, zk99, zk100, zk102, zk122, zk128, zk255, zk800, zk801, zk900, zk999, zk1000, zk1997, zk9999, zk10000, zk100000, zk99999, zk9999999, zk999999999, zk2147483647, zlc0, zlc1, zlc2, zlc3, zlc4, zlc23, zlc99, zlc100, zlc9999999, zlc999999999999, zlc1073741824, zi_neg, zi_add, zi_sub, zi_mul, zl_neg, zl_add, zl_sub, zl_mul, zi_toInt, zi_nat, zi_le, zi_lt, zi_eq, zl_le, zl_lt, zl_eq, zl_toInt, zl_of32, zi_of64, zi_div, zl_div, zmodI, ↓reduceIte, zTle, zFle, zTlt, zFlt, zTeq, zFeq, if_true, if_false, and_self, and_true, true_and, and_false, false_and, or_self, or_true, true_or, or_false, false_or, not_true_eq_false, not_false_eq_true, zcastA, zcastL, znatC, zab, Int.reduceAdd, Int.reduceSub, Int.reduceMul, Int.reduceNeg, Int.reduceToNat, Nat.reduceAdd]
theorem try_b (d len : Nat) (μ : zMu) (ν : zNu) (b we f1 t1 : Int) (t w : Nat → Int) (v4 v5 : Value) (hb : 0 ≤ b ∧ b < 8) (hwe : μ 40 b.toNat = zi we) (hwb : -1 ≤ we ∧ we ≤ 900) (h44 : ∀ k, k < 4 → μ 44 k = zi (t k)) (h44b : ∀ k, k < 4 → 0 ≤ t k ∧ t k ≤ 9) (h36 : ∀ k, k < 5 → μ 36 k = zi (w k)) (h36b : ∀ k, k < 5 → 1 ≤ w k ∧ w k ≤ 20) (hf : 0 ≤ f1 ∧ f1 ≤ 100) (ht : -100 ≤ t1 ∧ t1 ≤ 9) : ∃ f2 t2 : Int, 0 ≤ f2 ∧ t2 ≤ 9 ∧ (∀ e : Int, f2 ≤ e ∧ e ≤ t2 ↔ (f1 ≤ e ∧ e ≤ t1) ∧ (we = -1 ∨ we = sm 4 (fun k => t k * w k) + e * w 4)) ∧ zE zc_X0_tryLastKind (zF zT0 (d + 1)) 64 [.ref 35, .int (zi b), .int (zi f1), .int (zi t1), v4, v5] [] (zm len μ ν) = if f2 ≤ t2 then zbv (zF zT0 (d + 1) 9 [.ref 35, .int (zi b), .int (zi f2), .int (zi t2)] (zm len μ ν)) (fun M' => some (.null, M')) else some (.null, zm len μ ν) := by
  have ret : ∀ (a b c : Int32) (v v' : Value) (M' : zM), zE zc_X0_tryLastKind (zF zT0 (d + 1)) 170 [.ref 35, .int a, .int b, .int c, v, v'] [] M' = some (.null, M') := fun a b c v v' M' => (zE_runc zg_X0_tryLastKind [] 1 170 _ _ _).trans rfl
  have fin : ∀ (f2 t2 : Int) (v4 v5 : Value), 0 ≤ f2 ∧ f2 ≤ 2000 → -2000 ≤ t2 ∧ t2 ≤ 9 → zE zc_X0_tryLastKind (zF zT0 (d + 1)) 158 [.ref 35, .int (zi b), .int (zi f2), .int (zi t2), v4, v5] [] (zm len μ ν) = if f2 ≤ t2 then zbv (zF zT0 (d + 1) 9 [.ref 35, .int (zi b), .int (zi f2), .int (zi t2)] (zm len μ ν)) (fun M' => some (.null, M')) else some (.null, zm len μ ν) := by
    intro f2 t2 v4 v5 h1 h2
    rw [B_X0_tryLastKind_158]
    by_cases c : f2 ≤ t2
    · simp (disch := omega) only [ret, zbi_some, zbl_some, zbv_some, zbi_none, zbl_none, zbv_none, zbi_ite, zbl_ite, zbv_ite, zbZ, zbO, zc_lt, zc_le, zc_ge, zc_gt, zc_eq, zk0, zk1, zk2, zk3, zk4, zk5, zk6, zk7, zk8, zk9, zk10, zk11, zk12, zk14, zk15, zk16, zk17, zk19, zk20, zk21, zk24, zk25, zk30, zk32, zk36, zk40, zk45, zk50, zk64, zk97, zk99, zk100, zk102, zk122, zk128, zk255, zk800, zk801, zk900, zk999, zk1000, zk1997, zk9999, zk10000, zk100000, zk99999, zk9999999, zk999999999, zk2147483647, zlc0, zlc1, zlc2, zlc3, zlc4, zlc23, zlc99, zlc100, zlc9999999, zlc999999999999, zlc1073741824, zi_neg, zi_add, zi_sub, zi_mul, zl_neg, zl_add, zl_sub, zl_mul, zi_toInt, zi_nat, zi_le, zi_lt, zi_eq, zl_le, zl_lt, zl_eq, zl_toInt, zl_of32, zi_of64, zi_div, zl_div, zmodI, ↓reduceIte, zTle, zFle, zTlt, zFlt, zTeq, zFeq, if_true, if_false, and_self, and_true, true_and, and_false, false_and, or_self, or_true, true_or, or_false, false_or, not_true_eq_false, not_false_eq_true, zcastA, zcastL, znatC, zab, Int.reduceAdd, Int.reduceSub, Int.reduceMul, Int.reduceNeg, Int.reduceToNat, Nat.reduceAdd]
    · simp (disch := omega) only [ret, zbi_some, zbl_some, zbv_some, zbi_none, zbl_none, zbv_none, zbi_ite, zbl_ite, zbv_ite, zbZ, zbO, zc_lt, zc_le, zc_ge, zc_gt, zc_eq, zk0, zk1, zk2, zk3, zk4, zk5, zk6, zk7, zk8, zk9, zk10, zk11, zk12, zk14, zk15, zk16, zk17, zk19, zk20, zk21, zk24, zk25, zk30, zk32, zk36, zk40, zk45, zk50, zk64, zk97, zk99, zk100, zk102, zk122, zk128, zk255, zk800, zk801, zk900, zk999, zk1000, zk1997, zk9999, zk10000, zk100000, zk99999, zk9999999, zk999999999, zk2147483647, zlc0, zlc1, zlc2, zlc3, zlc4, zlc23, zlc99, zlc100, zlc9999999, zlc999999999999, zlc1073741824, zi_neg, zi_add, zi_sub, zi_mul, zl_neg, zl_add, zl_sub, zl_mul, zi_toInt, zi_nat, zi_le, zi_lt, zi_eq, zl_le, zl_lt, zl_eq, zl_toInt, zl_of32, zi_of64, zi_div, zl_div, zmodI, ↓reduceIte, zTle, zFle, zTlt, zFlt, zTeq, zFeq, if_true, if_false, and_self, and_true, true_and, and_false, false_and, or_self, or_true, true_or, or_false, false_or, not_true_eq_false, not_false_eq_true, zcastA, zcastL, znatC, zab, Int.reduceAdd, Int.reduceSub, Int.reduceMul, Int.reduceNeg, Int.reduceToNat, Nat.reduceAdd]
  have hwe2 : μ 40 (zi b).toNatClampNeg = zi we := by rw [zi_nat (by omega)]; exact hwe
  rw [B_X0_tryLastKind_64, hwe2]
  by_cases c : we = -1
  · refine ⟨f1, t1, hf.1, ht.2, fun e => ⟨fun h => ⟨h, Or.inl c⟩, fun h => h.1⟩, ?_⟩
    simp (disch := omega) only [c, zbi_some, zbl_some, zbv_some, zbi_none, zbl_none, zbv_none, zbi_ite, zbl_ite, zbv_ite, zbZ, zbO, zc_lt, zc_le, zc_ge, zc_gt, zc_eq, zk0, zk1, zk2, zk3, zk4, zk5, zk6, zk7, zk8, zk9, zk10, zk11, zk12, zk14, zk15, zk16, zk17, zk19, zk20, zk21, zk24, zk25, zk30, zk32, zk36, zk40, zk45, zk50, zk64, zk97, zk99, zk100, zk102, zk122, zk128, zk255, zk800, zk801, zk900, zk999, zk1000, zk1997, zk9999, zk10000, zk100000, zk99999, zk9999999, zk999999999, zk2147483647, zlc0, zlc1, zlc2, zlc3, zlc4, zlc23, zlc99, zlc100, zlc9999999, zlc999999999999, zlc1073741824, zi_neg, zi_add, zi_sub, zi_mul, zl_neg, zl_add, zl_sub, zl_mul, zi_toInt, zi_nat, zi_le, zi_lt, zi_eq, zl_le, zl_lt, zl_eq, zl_toInt, zl_of32, zi_of64, zi_div, zl_div, zmodI, ↓reduceIte, zTle, zFle, zTlt, zFlt, zTeq, zFeq, if_true, if_false, and_self, and_true, true_and, and_false, false_and, or_self, or_true, true_or, or_false, false_or, not_true_eq_false, not_false_eq_true, zcastA, zcastL, znatC, zab, Int.reduceAdd, Int.reduceSub, Int.reduceMul, Int.reduceNeg, Int.reduceToNat, Nat.reduceAdd]
    exact fin f1 t1 v4 v5 ⟨hf.1, by omega⟩ ⟨by omega, ht.2⟩
  · have L := zloop (f := fun j => zE zc_X0_tryLastKind (zF zT0 (d + 1)) 85 [.ref 35, .int (zi b), .int (zi f1), .int (zi t1), .int (zi (we - sm j (fun k => t k * w k))), .int (zi (j : Int))] [] (zm len μ ν)) (n := 4) (fun j hj => by
      show zE _ _ _ _ _ _ = zE _ _ _ _ _ _
      rw [B_X0_tryLastKind_85]
      simp (disch := omega) only [h44 j hj, h36 j (by omega), sm_S, Int.sub_sub, zbi_some, zbl_some, zbv_some, zbi_none, zbl_none, zbv_none, zbi_ite, zbl_ite, zbv_ite, zbZ, zbO, zc_lt, zc_le, zc_ge, zc_gt, zc_eq, zk0, zk1, zk2, zk3, zk4, zk5, zk6, zk7, zk8, zk9, zk10, zk11, zk12, zk14, zk15, zk16, zk17, zk19, zk20, zk21, zk24, zk25, zk30, zk32, zk36, zk40, zk45, zk50, zk64, zk97, zk99, zk100, zk102, zk122, zk128, zk255, zk800, zk801, zk900, zk999, zk1000, zk1997, zk9999, zk10000, zk100000, zk99999, zk9999999, zk999999999, zk2147483647, zlc0, zlc1, zlc2, zlc3, zlc4, zlc23, zlc99, zlc100, zlc9999999, zlc999999999999, zlc1073741824, zi_neg, zi_add, zi_sub, zi_mul, zl_neg, zl_add, zl_sub, zl_mul, zi_toInt, zi_nat, zi_le, zi_lt, zi_eq, zl_le, zl_lt, zl_eq, zl_toInt, zl_of32, zi_of64, zi_div, zl_div, zmodI, ↓reduceIte, zTle, zFle, zTlt, zFlt, zTeq, zFeq, if_true, if_false, and_self, and_true, true_and, and_false, false_and, or_self, or_true, true_or, or_false, false_or, not_true_eq_false, not_false_eq_true, zcastA, zcastL, znatC, zab, Int.reduceAdd, Int.reduceSub, Int.reduceMul, Int.reduceNeg, Int.reduceToNat, Nat.reduceAdd])
    have L0 : zE zc_X0_tryLastKind (zF zT0 (d + 1)) 85 [.ref 35, .int (zi b), .int (zi f1), .int (zi t1), .int (zi (we - 0)), .int (zi 0)] [] (zm len μ ν) = zE zc_X0_tryLastKind (zF zT0 (d + 1)) 85 [.ref 35, .int (zi b), .int (zi f1), .int (zi t1), .int (zi (we - sm 4 (fun k => t k * w k))), .int (zi 4)] [] (zm len μ ν) := L
    rw [Int.sub_zero] at L0
    have sb := sm_b (n := 4) (f := fun k => t k * w k) (B := 180) (fun j hj => by
      have h1 := h44b j hj
      have h2 := h36b j (by omega)
      have h3 : 0 ≤ t j * w j := Int.mul_nonneg (by omega) (by omega)
      have h4 : t j * w j ≤ 9 * 20 := Int.mul_le_mul (by omega) (by omega) (by omega) (by omega)
      omega)
    obtain ⟨s, hs⟩ : ∃ s, s = sm 4 (fun k => t k * w k) := ⟨_, rfl⟩
    rw [← hs] at L0 sb
    simp only [← hs]
    have w4 := h36b 4 (by omega)
    have e36 := h36 4 (by omega)
    obtain ⟨W, hW⟩ : ∃ W, W = w 4 := ⟨_, rfl⟩
    rw [← hW] at w4 e36 ⊢
    obtain ⟨a, ha⟩ : ∃ a, a = we - s := ⟨_, rfl⟩
    rw [← ha] at L0
    have hq := zi_tdiv (a := a) (b := W) (by omega)
    obtain ⟨q, hqd⟩ : ∃ q, q = a.tdiv W := ⟨_, rfl⟩
    rw [← hqd] at hq
    have G : (if 0 ≤ (zi b).toInt ∧ (zi b).toInt < ((8 : Nat) : Int) then if zi we = -1 then zE zc_X0_tryLastKind (zF zT0 (d + 1)) 158 [.ref 35, .int (zi b), .int (zi f1), .int (zi t1), v4, v5] [] (zm len μ ν) else if 0 ≤ (zi b).toInt ∧ (zi b).toInt < ((8 : Nat) : Int) then zE zc_X0_tryLastKind (zF zT0 (d + 1)) 85 [.ref 35, .int (zi b), .int (zi f1), .int (zi t1), .int (zi we), .int 0] [] (zm len μ ν) else none else none) = zE zc_X0_tryLastKind (zF zT0 (d + 1)) 85 [.ref 35, .int (zi b), .int (zi f1), .int (zi t1), .int (zi a), .int (zi 4)] [] (zm len μ ν) := by
      simp (disch := omega) only [c, zbi_some, zbl_some, zbv_some, zbi_none, zbl_none, zbv_none, zbi_ite, zbl_ite, zbv_ite, zbZ, zbO, zc_lt, zc_le, zc_ge, zc_gt, zc_eq, zk0, zk1, zk2, zk3, zk4, zk5, zk6, zk7, zk8, zk9, zk10, zk11, zk12, zk14, zk15, zk16, zk17, zk19, zk20, zk21, zk24, zk25, zk30, zk32, zk36, zk40, zk45, zk50, zk64, zk97, zk99, zk100, zk102, zk122, zk128, zk255, zk800, zk801, zk900, zk999, zk1000, zk1997, zk9999, zk10000, zk100000, zk99999, zk9999999, zk999999999, zk2147483647, zlc0, zlc1, zlc2, zlc3, zlc4, zlc23, zlc99, zlc100, zlc9999999, zlc999999999999, zlc1073741824, zi_neg, zi_add, zi_sub, zi_mul, zl_neg, zl_add, zl_sub, zl_mul, zi_toInt, zi_nat, zi_le, zi_lt, zi_eq, zl_le, zl_lt, zl_eq, zl_toInt, zl_of32, zi_of64, zi_div, zl_div, zmodI, ↓reduceIte, zTle, zFle, zTlt, zFlt, zTeq, zFeq, if_true, if_false, and_self, and_true, true_and, and_false, false_and, or_self, or_true, true_or, or_false, false_or, not_true_eq_false, not_false_eq_true, zcastA, zcastL, znatC, zab, Int.reduceAdd, Int.reduceSub, Int.reduceMul, Int.reduceNeg, Int.reduceToNat, Nat.reduceAdd]
      exact L0
    rw [G, B_X0_tryLastKind_85, e36]
    have qb : a = q * W → -2000 ≤ q ∧ q ≤ 2000 := fun h => by
      by_cases z : 0 ≤ q
      · have := Int.mul_le_mul_of_nonneg_left w4.1 z
        omega
      · have := Int.mul_le_mul_of_nonneg_left w4.1 (show 0 ≤ -q by omega)
        simp only [Int.neg_mul] at this
        omega
    by_cases cq : a - q * W = 0
    · have qb := qb (by omega)
      refine ⟨mx f1 q, mn q t1, ?_, ?_, fun e => ?_, ?_⟩
      · unfold mx; split <;> omega
      · unfold mn; split <;> omega
      · have iff1 : (we = s + e * W) ↔ e = q := by
          constructor
          · intro h
            have : e * W = q * W := by omega
            exact Int.eq_of_mul_eq_mul_right (by omega) this
          · intro h
            rw [h]
            omega
        rw [iff1]
        unfold mx mn
        constructor
        · intro h
          by_cases z1 : f1 < q <;> by_cases z2 : q < t1 <;> simp only [z1, z2, if_true, if_false] at h <;> omega
        · intro h
          have h2 : e = q := by omega
          by_cases z1 : f1 < q <;> by_cases z2 : q < t1 <;> simp only [z1, z2, if_true, if_false] <;> omega
      · simp (disch := omega) only [hq, cq, zi_ite, zi_mx, zi_mn, zbi_some, zbl_some, zbv_some, zbi_none, zbl_none, zbv_none, zbi_ite, zbl_ite, zbv_ite, zbZ, zbO, zc_lt, zc_le, zc_ge, zc_gt, zc_eq, zk0, zk1, zk2, zk3, zk4, zk5, zk6, zk7, zk8, zk9, zk10, zk11, zk12, zk14, zk15, zk16, zk17, zk19, zk20, zk21, zk24, zk25, zk30, zk32, zk36, zk40, zk45, zk50, zk64, zk97, zk99, zk100, zk102, zk122, zk128, zk255, zk800, zk801, zk900, zk999, zk1000, zk1997, zk9999, zk10000, zk100000, zk99999, zk9999999, zk999999999, zk2147483647, zlc0, zlc1, zlc2, zlc3, zlc4, zlc23, zlc99, zlc100, zlc9999999, zlc999999999999, zlc1073741824, zi_neg, zi_add, zi_sub, zi_mul, zl_neg, zl_add, zl_sub, zl_mul, zi_toInt, zi_nat, zi_le, zi_lt, zi_eq, zl_le, zl_lt, zl_eq, zl_toInt, zl_of32, zi_of64, zi_div, zl_div, zmodI, ↓reduceIte, zTle, zFle, zTlt, zFlt, zTeq, zFeq, if_true, if_false, and_self, and_true, true_and, and_false, false_and, or_self, or_true, true_or, or_false, false_or, not_true_eq_false, not_false_eq_true, zcastA, zcastL, znatC, zab, Int.reduceAdd, Int.reduceSub, Int.reduceMul, Int.reduceNeg, Int.reduceToNat, Nat.reduceAdd]
        refine fin _ _ _ _ ?_ ?_
        · unfold mx; split <;> omega
        · unfold mn; split <;> omega
    · refine ⟨1, 0, by omega, by omega, fun e => ⟨fun h => by omega, fun h => ?_⟩, ?_⟩
      · have h2 : a = e * W := by omega
        have h3 : q = e := by rw [hqd, h2]; exact Int.mul_tdiv_cancel e (by omega)
        rw [h3] at cq
        omega
      · have cq2 : -2147483648 ≤ a - q * W ∧ a - q * W < 2147483648 := by
          have h1 : a - q * W = a.tmod W := by rw [Int.tmod_def, hqd, Int.mul_comm]
          have h2 := Int.tmod_lt_of_pos a (show 0 < W by omega)
          have h3 : -W < a.tmod W := Int.lt_tmod_of_pos a (show 0 < W by omega)
          omega
        simp (disch := omega) only [hq, cq, zbi_some, zbl_some, zbv_some, zbi_none, zbl_none, zbv_none, zbi_ite, zbl_ite, zbv_ite, zbZ, zbO, zc_lt, zc_le, zc_ge, zc_gt, zc_eq, zk0, zk1, zk2, zk3, zk4, zk5, zk6, zk7, zk8, zk9, zk10, zk11, zk12, zk14, zk15, zk16, zk17, zk19, zk20, zk21, zk24, zk25, zk30, zk32, zk36, zk40, zk45, zk50, zk64, zk97, zk99, zk100, zk102, zk122, zk128, zk255, zk800, zk801, zk900, zk999, zk1000, zk1997, zk9999, zk10000, zk100000, zk99999, zk9999999, zk999999999, zk2147483647, zlc0, zlc1, zlc2, zlc3, zlc4, zlc23, zlc99, zlc100, zlc9999999, zlc999999999999, zlc1073741824, zi_neg, zi_add, zi_sub, zi_mul, zl_neg, zl_add, zl_sub, zl_mul, zi_toInt, zi_nat, zi_le, zi_lt, zi_eq, zl_le, zl_lt, zl_eq, zl_toInt, zl_of32, zi_of64, zi_div, zl_div, zmodI, ↓reduceIte, zTle, zFle, zTlt, zFlt, zTeq, zFeq, if_true, if_false, and_self, and_true, true_and, and_false, false_and, or_self, or_true, true_or, or_false, false_or, not_true_eq_false, not_false_eq_true, zcastA, zcastL, znatC, zab, Int.reduceAdd, Int.reduceSub, Int.reduceMul, Int.reduceNeg, Int.reduceToNat, Nat.reduceAdd]

/-! AHEAD: ahead agrees -/
def rd (U : Nat → Nat) (a : Nat) : Nat → Nat
  | 0 => a
  | q + 1 => if (rd U a q).testBit q = true then rd U a q ||| U q else rd U a q
def au (U : Nat → Nat) (n p : Nat) : Nat → Nat
  | 0 => U p
  | i + 1 => rd U (au U n p i) n
theorem rd_sub (U : Nat → Nat) (a : Nat) : ∀ k, sub a (rd U a k)
  | 0 => fun i h => h
  | k + 1 => fun i h => by
    have := rd_sub U a k i h
    unfold rd
    split
    · rw [Nat.testBit_or, this]
      rfl
    · exact this
theorem rd_mono (U : Nat → Nat) (a k : Nat) : ∀ m, sub (rd U a k) (rd U a (k + m))
  | 0 => fun i h => h
  | m + 1 => fun i h => by
    have := rd_mono U a k m i h
    show (rd U a (k + m + 1)).testBit i = true
    unfold rd
    split
    · rw [Nat.testBit_or, this]
      rfl
    · exact this
theorem rd_lt {U : Nat → Nat} {n a : Nat} (hU : ∀ p, U p < 2 ^ n) (ha : a < 2 ^ n) : ∀ k, rd U a k < 2 ^ n
  | 0 => ha
  | k + 1 => by
    have := rd_lt hU ha k
    unfold rd
    split
    · exact Nat.or_lt_two_pow this (hU k)
    · exact this
theorem au_lt {U : Nat → Nat} {n p : Nat} (hU : ∀ p, U p < 2 ^ n) : ∀ i, au U n p i < 2 ^ n
  | 0 => hU p
  | i + 1 => rd_lt hU (au_lt hU i) n
theorem rd_fix {U : Nat → Nat} {n a : Nat} (ha : a < 2 ^ n) (h : rd U a n = a) : cls U a := fun x hx i hi => by
  have xn : x < n := Nat.lt_of_not_le (fun z => by
    rw [bit_hi ha z] at hx
    cases hx)
  have h1 := rd_sub U a x x hx
  have h2 : (rd U a (x + 1)).testBit i = true := by
    unfold rd
    rw [if_pos h1, Nat.testBit_or, hi]
    simp
  have h3 := rd_mono U a (x + 1) (n - (x + 1)) i h2
  rw [show x + 1 + (n - (x + 1)) = n by omega, h] at h3
  exact h3
theorem rd_way {U : Nat → Nat} {n p a : Nat} (hU : ∀ p, U p < 2 ^ n) (h : ∀ x, a.testBit x = true → ∃ k, (lb U n x (k + 1)).testBit p = true) : ∀ m, m ≤ n → ∀ x, (rd U a m).testBit x = true → ∃ k, (lb U n x (k + 1)).testBit p = true
  | 0, _, x, hx => h x hx
  | m + 1, hm, x, hx => by
    have ih := rd_way hU h m (by omega)
    unfold rd at hx
    by_cases q : (rd U a m).testBit m = true
    · rw [if_pos q, Nat.testBit_or] at hx
      cases z : (rd U a m).testBit x with
      | true => exact ih x z
      | false =>
        rw [z] at hx
        obtain ⟨k, hk⟩ := ih m q
        exact ⟨k + 1, lb_cat (lb_1 (by omega) (by simpa using hx)) hk⟩
    · rw [if_neg q] at hx
      exact ih x hx
theorem au_way {U : Nat → Nat} {n p : Nat} (hU : ∀ p, U p < 2 ^ n) (hp : p < n) : ∀ i x, (au U n p i).testBit x = true → ∃ k, (lb U n x (k + 1)).testBit p = true
  | 0, x, hx => ⟨0, lb_1 hp hx⟩
  | i + 1, x, hx => rd_way hU (au_way hU hp i) n (Nat.le_refl n) x hx
theorem mcN_sub {n a b : Nat} (h : sub a b) : mcN n b ≤ mcN n a := by
  have e1 := mcN_eq n a
  have e2 := mcN_eq n b
  have := sm_mono (n := n) (f := fun p => if b.testBit p = true then (0 : Int) else 1) (g := fun p => if a.testBit p = true then (0 : Int) else 1) (fun j _ => by
    show (if b.testBit j = true then (0 : Int) else 1) ≤ if a.testBit j = true then (0 : Int) else 1
    by_cases z : a.testBit j = true
    · rw [if_pos z, if_pos (h j z)]
      exact Int.le_refl _
    · rw [if_neg z]
      split <;> omega)
  omega
theorem mcN_lt {n a b : Nat} (h : sub a b) (hb : b < 2 ^ n) (hne : a ≠ b) : mcN n b < mcN n a := by
  have ex : ∃ x, b.testBit x = true ∧ a.testBit x = false := by
    refine Classical.byContradiction (fun c => hne (sub_eq h (fun i hi => ?_)))
    cases z : a.testBit i with
    | true => rfl
    | false => exact absurd ⟨i, hi, z⟩ c
  obtain ⟨x, x1, x2⟩ := ex
  have xn : x < n := Nat.lt_of_not_le (fun z => by
    rw [bit_hi hb z] at x1
    cases x1)
  have h1 := mcN_or xn x2
  have h2 := mcN_sub (n := n) (sub_or h x1)
  omega
theorem au_cls {U : Nat → Nat} {n p : Nat} (hU : ∀ p, U p < 2 ^ n) : cls U (au U n p n) := by
  have key : ∀ i, rd U (au U n p i) n = au U n p i ∨ mcN n (au U n p i) + i ≤ n := by
    intro i
    induction i with
    | zero => exact Or.inr (mcN_le n _)
    | succ i ih =>
      by_cases q : rd U (au U n p i) n = au U n p i
      · left
        show rd U (rd U (au U n p i) n) n = rd U (au U n p i) n
        rw [q, q]
      · rcases ih with z | z
        · exact absurd z q
        · right
          have := mcN_lt (rd_sub U (au U n p i) n) (rd_lt hU (au_lt hU i) n) (fun w => q w.symm)
          show mcN n (rd U (au U n p i) n) + (i + 1) ≤ n
          omega
  rcases key n with z | z
  · exact rd_fix (au_lt hU n) z
  · have e := mcN_all (au_lt (p := p) hU n) (by omega)
    intro x hx i hi
    rw [e, all_bit]
    have : i < n := Nat.lt_of_not_le (fun w => by
      rw [bit_hi (hU x) w] at hi
      cases hi)
    simp [this]
theorem au_sub {U : Nat → Nat} {n p : Nat} : ∀ i, sub (U p) (au U n p i)
  | 0 => fun i h => h
  | i + 1 => fun x h => rd_sub U (au U n p i) n x (au_sub i x h)
theorem au_ok {U : Nat → Nat} {n p x : Nat} (hU : ∀ p, U p < 2 ^ n) (hp : p < n) (hne : x ≠ p) : (au U n p n).testBit x = true ↔ Wk U n p x := by
  constructor
  · intro h
    obtain ⟨k, hk⟩ := au_way hU hp n x h
    exact ⟨k + 1, hk⟩
  · intro h
    exact cls_un (au_cls hU) (au_sub n) hne h
theorem F_allU (d len n : Nat) (ν : zNu) (U : Nat → Nat) (μ : zMu) (p : Nat) (hR : Rs n U (μ 46)) (hc : μ 45 0 = zi (n : Int)) (hp : p < n) : zF zT0 (d + 1) 109 [.ref 45, .int (zi (p : Int))] (zm len μ ν) = some (.int (zi (au U n p n : Int)), zm len μ ν) := by
  have n10 := hR.1
  have u0 := (hR.2 p).1
  have round : ∀ (i a : Nat) (v : Value), i < n → zE zc_X8_allUnder (zF zT0 d) 9 [.ref 45, .int (zi (p : Int)), .int (zi (a : Int)), .int (zi (i : Int)), v] [] (zm len μ ν) = zE zc_X8_allUnder (zF zT0 d) 9 [.ref 45, .int (zi (p : Int)), .int (zi (rd U a n : Int)), .int (zi ((i + 1 : Nat) : Int)), .int (zi (n : Int))] [] (zm len μ ν) := fun i a v hi => by
    have K := zloop (f := fun q => zE zc_X8_allUnder (zF zT0 d) 20 [.ref 45, .int (zi (p : Int)), .int (zi (rd U a q : Int)), .int (zi (i : Int)), .int (zi (q : Int))] [] (zm len μ ν)) (n := n) (fun q hq => by
      have u := (hR.2 q).1
      show zE _ _ _ _ _ _ = zE _ _ _ _ _ _
      rw [B_X8_allUnder_20]
      cases z : (rd U a q).testBit q with
      | true =>
        have e : rd U a (q + 1) = rd U a q ||| U q := if_pos z
        rw [e]
        simp (disch := omega) only [hc, zb_bit, z, u, zb_orN, B_X8_allUnder_48, zbi_some, zbl_some, zbv_some, zbi_none, zbl_none, zbv_none, zbi_ite, zbl_ite, zbv_ite, zbZ, zbO, zc_lt, zc_le, zc_ge, zc_gt, zc_eq, zk0, zk1, zk2, zk3, zk4, zk5, zk6, zk7, zk8, zk9, zk10, zk11, zk12, zk14, zk15, zk16, zk17, zk19, zk20, zk21, zk24, zk25, zk30, zk32, zk36, zk40, zk45, zk50, zk64, zk97, zk99, zk100, zk102, zk122, zk128, zk255, zk800, zk801, zk900, zk999, zk1000, zk1997, zk9999, zk10000, zk100000, zk99999, zk9999999, zk999999999, zk2147483647, zlc0, zlc1, zlc2, zlc3, zlc4, zlc23, zlc99, zlc100, zlc9999999, zlc999999999999, zlc1073741824, zi_neg, zi_add, zi_sub, zi_mul, zl_neg, zl_add, zl_sub, zl_mul, zi_toInt, zi_nat, zi_le, zi_lt, zi_eq, zl_le, zl_lt, zl_eq, zl_toInt, zl_of32, zi_of64, zi_div, zl_div, zmodI, ↓reduceIte, zTle, zFle, zTlt, zFlt, zTeq, zFeq, if_true, if_false, and_self, and_true, true_and, and_false, false_and, or_self, or_true, true_or, or_false, false_or, not_true_eq_false, not_false_eq_true, zcastA, zcastL, znatC, zab, Int.reduceAdd, Int.reduceSub, Int.reduceMul, Int.reduceNeg, Int.reduceToNat, Nat.reduceAdd]
      | false =>
        have e : rd U a (q + 1) = rd U a q := if_neg (by rw [z]; simp)
        rw [e]
        simp (disch := omega) only [hc, zb_bit, z, Bool.false_eq_true, B_X8_allUnder_48, zbi_some, zbl_some, zbv_some, zbi_none, zbl_none, zbv_none, zbi_ite, zbl_ite, zbv_ite, zbZ, zbO, zc_lt, zc_le, zc_ge, zc_gt, zc_eq, zk0, zk1, zk2, zk3, zk4, zk5, zk6, zk7, zk8, zk9, zk10, zk11, zk12, zk14, zk15, zk16, zk17, zk19, zk20, zk21, zk24, zk25, zk30, zk32, zk36, zk40, zk45, zk50, zk64, zk97, zk99, zk100, zk102, zk122, zk128, zk255, zk800, zk801, zk900, zk999, zk1000, zk1997, zk9999, zk10000, zk100000, zk99999, zk9999999, zk999999999, zk2147483647, zlc0, zlc1, zlc2, zlc3, zlc4, zlc23, zlc99, zlc100, zlc9999999, zlc999999999999, zlc1073741824, zi_neg, zi_add, zi_sub, zi_mul, zl_neg, zl_add, zl_sub, zl_mul, zi_toInt, zi_nat, zi_le, zi_lt, zi_eq, zl_le, zl_lt, zl_eq, zl_toInt, zl_of32, zi_of64, zi_div, zl_div, zmodI, ↓reduceIte, zTle, zFle, zTlt, zFlt, zTeq, zFeq, if_true, if_false, and_self, and_true, true_and, and_false, false_and, or_self, or_true, true_or, or_false, false_or, not_true_eq_false, not_false_eq_true, zcastA, zcastL, znatC, zab, Int.reduceAdd, Int.reduceSub, Int.reduceMul, Int.reduceNeg, Int.reduceToNat, Nat.reduceAdd])
    have K0 : zE zc_X8_allUnder (zF zT0 d) 20 [.ref 45, .int (zi (p : Int)), .int (zi (a : Int)), .int (zi (i : Int)), .int (zi 0)] [] (zm len μ ν) = zE zc_X8_allUnder (zF zT0 d) 20 [.ref 45, .int (zi (p : Int)), .int (zi (rd U a n : Int)), .int (zi (i : Int)), .int (zi (n : Int))] [] (zm len μ ν) := K
    have g : zE zc_X8_allUnder (zF zT0 d) 20 [.ref 45, .int (zi (p : Int)), .int (zi (rd U a n : Int)), .int (zi (i : Int)), .int (zi (n : Int))] [] (zm len μ ν) = zE zc_X8_allUnder (zF zT0 d) 9 [.ref 45, .int (zi (p : Int)), .int (zi (rd U a n : Int)), .int (zi ((i + 1 : Nat) : Int)), .int (zi (n : Int))] [] (zm len μ ν) := by
      rw [B_X8_allUnder_20]
      simp (disch := omega) only [hc, zbi_some, zbl_some, zbv_some, zbi_none, zbl_none, zbv_none, zbi_ite, zbl_ite, zbv_ite, zbZ, zbO, zc_lt, zc_le, zc_ge, zc_gt, zc_eq, zk0, zk1, zk2, zk3, zk4, zk5, zk6, zk7, zk8, zk9, zk10, zk11, zk12, zk14, zk15, zk16, zk17, zk19, zk20, zk21, zk24, zk25, zk30, zk32, zk36, zk40, zk45, zk50, zk64, zk97, zk99, zk100, zk102, zk122, zk128, zk255, zk800, zk801, zk900, zk999, zk1000, zk1997, zk9999, zk10000, zk100000, zk99999, zk9999999, zk999999999, zk2147483647, zlc0, zlc1, zlc2, zlc3, zlc4, zlc23, zlc99, zlc100, zlc9999999, zlc999999999999, zlc1073741824, zi_neg, zi_add, zi_sub, zi_mul, zl_neg, zl_add, zl_sub, zl_mul, zi_toInt, zi_nat, zi_le, zi_lt, zi_eq, zl_le, zl_lt, zl_eq, zl_toInt, zl_of32, zi_of64, zi_div, zl_div, zmodI, ↓reduceIte, zTle, zFle, zTlt, zFlt, zTeq, zFeq, if_true, if_false, and_self, and_true, true_and, and_false, false_and, or_self, or_true, true_or, or_false, false_or, not_true_eq_false, not_false_eq_true, zcastA, zcastL, znatC, zab, Int.reduceAdd, Int.reduceSub, Int.reduceMul, Int.reduceNeg, Int.reduceToNat, Nat.reduceAdd]
    rw [← g, ← K0, B_X8_allUnder_9]
    simp (disch := omega) only [hc, zbi_some, zbl_some, zbv_some, zbi_none, zbl_none, zbv_none, zbi_ite, zbl_ite, zbv_ite, zbZ, zbO, zc_lt, zc_le, zc_ge, zc_gt, zc_eq, zk0, zk1, zk2, zk3, zk4, zk5, zk6, zk7, zk8, zk9, zk10, zk11, zk12, zk14, zk15, zk16, zk17, zk19, zk20, zk21, zk24, zk25, zk30, zk32, zk36, zk40, zk45, zk50, zk64, zk97, zk99, zk100, zk102, zk122, zk128, zk255, zk800, zk801, zk900, zk999, zk1000, zk1997, zk9999, zk10000, zk100000, zk99999, zk9999999, zk999999999, zk2147483647, zlc0, zlc1, zlc2, zlc3, zlc4, zlc23, zlc99, zlc100, zlc9999999, zlc999999999999, zlc1073741824, zi_neg, zi_add, zi_sub, zi_mul, zl_neg, zl_add, zl_sub, zl_mul, zi_toInt, zi_nat, zi_le, zi_lt, zi_eq, zl_le, zl_lt, zl_eq, zl_toInt, zl_of32, zi_of64, zi_div, zl_div, zmodI, ↓reduceIte, zTle, zFle, zTlt, zFlt, zTeq, zFeq, if_true, if_false, and_self, and_true, true_and, and_false, false_and, or_self, or_true, true_or, or_false, false_or, not_true_eq_false, not_false_eq_true, zcastA, zcastL, znatC, zab, Int.reduceAdd, Int.reduceSub, Int.reduceMul, Int.reduceNeg, Int.reduceToNat, Nat.reduceAdd]
  have K := zloopV (f := fun i v => zE zc_X8_allUnder (zF zT0 d) 9 [.ref 45, .int (zi (p : Int)), .int (zi (au U n p i : Int)), .int (zi (i : Int)), v] [] (zm len μ ν)) (n := n) (fun i v hi => ⟨.int (zi (n : Int)), round i (au U n p i) v hi⟩)
  obtain ⟨v', K1⟩ := K zU
  have K0 : zE zc_X8_allUnder (zF zT0 d) 9 [.ref 45, .int (zi (p : Int)), .int (zi (U p : Int)), .int (zi 0), zU] [] (zm len μ ν) = zE zc_X8_allUnder (zF zT0 d) 9 [.ref 45, .int (zi (p : Int)), .int (zi (au U n p n : Int)), .int (zi (n : Int)), v'] [] (zm len μ ν) := K1
  have fin : zE zc_X8_allUnder (zF zT0 d) 9 [.ref 45, .int (zi (p : Int)), .int (zi (au U n p n : Int)), .int (zi (n : Int)), v'] [] (zm len μ ν) = some (.int (zi (au U n p n : Int)), zm len μ ν) := by
    rw [B_X8_allUnder_9]
    simp (disch := omega) only [hc, zbi_some, zbl_some, zbv_some, zbi_none, zbl_none, zbv_none, zbi_ite, zbl_ite, zbv_ite, zbZ, zbO, zc_lt, zc_le, zc_ge, zc_gt, zc_eq, zk0, zk1, zk2, zk3, zk4, zk5, zk6, zk7, zk8, zk9, zk10, zk11, zk12, zk14, zk15, zk16, zk17, zk19, zk20, zk21, zk24, zk25, zk30, zk32, zk36, zk40, zk45, zk50, zk64, zk97, zk99, zk100, zk102, zk122, zk128, zk255, zk800, zk801, zk900, zk999, zk1000, zk1997, zk9999, zk10000, zk100000, zk99999, zk9999999, zk999999999, zk2147483647, zlc0, zlc1, zlc2, zlc3, zlc4, zlc23, zlc99, zlc100, zlc9999999, zlc999999999999, zlc1073741824, zi_neg, zi_add, zi_sub, zi_mul, zl_neg, zl_add, zl_sub, zl_mul, zi_toInt, zi_nat, zi_le, zi_lt, zi_eq, zl_le, zl_lt, zl_eq, zl_toInt, zl_of32, zi_of64, zi_div, zl_div, zmodI, ↓reduceIte, zTle, zFle, zTlt, zFlt, zTeq, zFeq, if_true, if_false, and_self, and_true, true_and, and_false, false_and, or_self, or_true, true_or, or_false, false_or, not_true_eq_false, not_false_eq_true, zcastA, zcastL, znatC, zab, Int.reduceAdd, Int.reduceSub, Int.reduceMul, Int.reduceNeg, Int.reduceToNat, Nat.reduceAdd]
  rw [B_X8_allUnder, ← fin, ← K0]
  simp (disch := omega) only [u0, zbi_some, zbl_some, zbv_some, zbi_none, zbl_none, zbv_none, zbi_ite, zbl_ite, zbv_ite, zbZ, zbO, zc_lt, zc_le, zc_ge, zc_gt, zc_eq, zk0, zk1, zk2, zk3, zk4, zk5, zk6, zk7, zk8, zk9, zk10, zk11, zk12, zk14, zk15, zk16, zk17, zk19, zk20, zk21, zk24, zk25, zk30, zk32, zk36, zk40, zk45, zk50, zk64, zk97, zk99, zk100, zk102, zk122, zk128, zk255, zk800, zk801, zk900, zk999, zk1000, zk1997, zk9999, zk10000, zk100000, zk99999, zk9999999, zk999999999, zk2147483647, zlc0, zlc1, zlc2, zlc3, zlc4, zlc23, zlc99, zlc100, zlc9999999, zlc999999999999, zlc1073741824, zi_neg, zi_add, zi_sub, zi_mul, zl_neg, zl_add, zl_sub, zl_mul, zi_toInt, zi_nat, zi_le, zi_lt, zi_eq, zl_le, zl_lt, zl_eq, zl_toInt, zl_of32, zi_of64, zi_div, zl_div, zmodI, ↓reduceIte, zTle, zFle, zTlt, zFlt, zTeq, zFeq, if_true, if_false, and_self, and_true, true_and, and_false, false_and, or_self, or_true, true_or, or_false, false_or, not_true_eq_false, not_false_eq_true, zcastA, zcastL, znatC, zab, Int.reduceAdd, Int.reduceSub, Int.reduceMul, Int.reduceNeg, Int.reduceToNat, Nat.reduceAdd]
theorem ag_ahead (d len : Nat) (μ : zMu) (ν : zNu) (a b : Int32) (h : RsealM μ) : ∃ (v : Int32) (μ1 μ2 : zMu), zF zT0 (d + 8) 155 [.ref 1, .int a, .int b] (zm len μ ν) = some (.int v, zm len μ1 ν) ∧ zF zT0 (d + 8) 241 [.ref 92, .int a, .int b] (zm len μ1 ν) = some (.int v, zm len μ2 ν) ∧ RsealM μ2 ∧ zfr [48, 127] [0] μ μ2 := by
  have hRR := h
  obtain ⟨n, U, R1, R2, hc, hm⟩ := Rs_of h
  obtain ⟨a, a1, a2, rfl⟩ := zi_ex a
  obtain ⟨b, b1, b2, rfl⟩ := zi_ex b
  have n10 := R1.1
  have hU := fun p => (R1.2 p).2.1
  have keep : ∀ μ2 : zMu, zfr [48, 127] [0] μ μ2 → RsealM μ2 := fun μ2 z => by
    unfold RsealM
    rw [z.1 45 (by decide) (by decide), z.1 46 (by decide) (by decide), z.1 126 (by decide) (by decide), z.2 52 (by decide)]
    exact hRR
  have er : (zup μ 92 0 (zi 0)) 92 52 = zi (n : Int) := by rw [zup_self, upd_ne _ _ (by decide)]; exact hm
  by_cases c0 : 0 ≤ a ∧ a ≤ (n : Int) - 1
  · have c0' : 0 ≤ a ∧ a < (n : Int) := by omega
    by_cases c1 : 0 ≤ b ∧ b ≤ (n : Int) - 1
    · have c1' : 0 ≤ b ∧ b < (n : Int) := by omega
      by_cases c2 : a = b
      · refine ⟨zi (-1), μ, zup μ 92 0 (zi 0), ?_, ?_, hRR, zfr_92 (zfr_rf _ _ _) (by decide)⟩
        · rw [B_X11_ahead]
          simp (disch := omega) only [B_X8_compare, F_X8_isSealing, hc, c0, B_X8_compare_5, c1, B_X8_compare_13, c2, B_X11_ahead_9, zbi_some, zbl_some, zbv_some, zbi_none, zbl_none, zbv_none, zbi_ite, zbl_ite, zbv_ite, zbZ, zbO, zc_lt, zc_le, zc_ge, zc_gt, zc_eq, zk0, zk1, zk2, zk3, zk4, zk5, zk6, zk7, zk8, zk9, zk10, zk11, zk12, zk14, zk15, zk16, zk17, zk19, zk20, zk21, zk24, zk25, zk30, zk32, zk36, zk40, zk45, zk50, zk64, zk97, zk99, zk100, zk102, zk122, zk128, zk255, zk800, zk801, zk900, zk999, zk1000, zk1997, zk9999, zk10000, zk100000, zk99999, zk9999999, zk999999999, zk2147483647, zlc0, zlc1, zlc2, zlc3, zlc4, zlc23, zlc99, zlc100, zlc9999999, zlc999999999999, zlc1073741824, zi_neg, zi_add, zi_sub, zi_mul, zl_neg, zl_add, zl_sub, zl_mul, zi_toInt, zi_nat, zi_le, zi_lt, zi_eq, zl_le, zl_lt, zl_eq, zl_toInt, zl_of32, zi_of64, zi_div, zl_div, zmodI, ↓reduceIte, zTle, zFle, zTlt, zFlt, zTeq, zFeq, if_true, if_false, and_self, and_true, true_and, and_false, false_and, or_self, or_true, true_or, or_false, false_or, not_true_eq_false, not_false_eq_true, zcastA, zcastL, znatC, zab, Int.reduceAdd, Int.reduceSub, Int.reduceMul, Int.reduceNeg, Int.reduceToNat, Nat.reduceAdd]
        · rw [B_X12_ahead]
          simp (disch := omega) only [F_X12_isSeal, er, c0', B_X12_ahead_10, c1', B_X12_ahead_18, c2, zbi_some, zbl_some, zbv_some, zbi_none, zbl_none, zbv_none, zbi_ite, zbl_ite, zbv_ite, zbZ, zbO, zc_lt, zc_le, zc_ge, zc_gt, zc_eq, zk0, zk1, zk2, zk3, zk4, zk5, zk6, zk7, zk8, zk9, zk10, zk11, zk12, zk14, zk15, zk16, zk17, zk19, zk20, zk21, zk24, zk25, zk30, zk32, zk36, zk40, zk45, zk50, zk64, zk97, zk99, zk100, zk102, zk122, zk128, zk255, zk800, zk801, zk900, zk999, zk1000, zk1997, zk9999, zk10000, zk100000, zk99999, zk9999999, zk999999999, zk2147483647, zlc0, zlc1, zlc2, zlc3, zlc4, zlc23, zlc99, zlc100, zlc9999999, zlc999999999999, zlc1073741824, zi_neg, zi_add, zi_sub, zi_mul, zl_neg, zl_add, zl_sub, zl_mul, zi_toInt, zi_nat, zi_le, zi_lt, zi_eq, zl_le, zl_lt, zl_eq, zl_toInt, zl_of32, zi_of64, zi_div, zl_div, zmodI, ↓reduceIte, zTle, zFle, zTlt, zFlt, zTeq, zFeq, if_true, if_false, and_self, and_true, true_and, and_false, false_and, or_self, or_true, true_or, or_false, false_or, not_true_eq_false, not_false_eq_true, zcastA, zcastL, znatC, zab, Int.reduceAdd, Int.reduceSub, Int.reduceMul, Int.reduceNeg, Int.reduceToNat, Nat.reduceAdd]
      · obtain ⟨p, hp⟩ : ∃ p : Nat, (p : Int) = a := ⟨a.toNat, by omega⟩
        obtain ⟨q, hq⟩ : ∃ q : Nat, (q : Int) = b := ⟨b.toNat, by omega⟩
        subst hp
        subst hq
        have pn : p < n := by omega
        have qn : q < n := by omega
        have pq : p ≠ q := by omega
        obtain ⟨μ1, r, f1, f2, f3⟩ := F_first (d + 5) len n ν U μ R1 hc
        have g126 : (zup μ1 92 0 (zi 0)) 126 = μ 126 := by rw [zup_ne _ _ _ (by decide)]; exact f2 126 (by decide)
        have g52 : (zup μ1 92 0 (zi 0)) 92 52 = zi (n : Int) := by rw [zup_self, upd_ne _ _ (by decide), f2 92 (by decide)]; exact hm
        obtain ⟨μ2, o1, o2, o3⟩ := F_orders (d + 6) len n ν U (-1) 0 (zup μ1 92 0 (zi 0)) (by rw [g126]; exact R2) g52 (by omega) (by omega)
        rw [oW_no] at o1
        have o1' : zF zT0 (d + 7) 235 [.ref 92, .int (zi (-1)), .int (zi 0)] (zm len (zup μ1 92 0 (zi 0)) ν) = _ := o1
        have k126 : Rs n U (μ2 126) := by rw [o2 126 (by decide), g126]; exact R2
        have k52 : μ2 92 52 = zi (n : Int) := by rw [o2 92 (by decide)]; exact g52
        have ob := oB_b U n10 (Nat.two_pow_pos n)
        have W2 : zfr [48, 127] [0] μ μ2 := by
          refine ⟨fun r hr h92 => ?_, fun j hj => ?_⟩
          · simp only [List.mem_cons, List.not_mem_nil, or_false, not_or] at hr
            rw [o2 r hr.2, zup_ne _ _ _ h92]
            exact f2 r hr.1
          · simp only [List.mem_cons, List.not_mem_nil, or_false, not_or] at hj
            rw [o2 92 (by decide), zup_self, upd_ne _ _ hj, f2 92 (by decide)]
        rcases f3 with ⟨r1, r2, r3⟩ | ⟨r1, r2⟩
        · obtain ⟨μ3, s1, s2, s3⟩ := F_orders (d + 6) len n ν U (q : Int) p μ2 k126 k52 (by omega) (by omega)
          have W3 : zfr [48, 127] [0] μ μ3 := by
            refine ⟨fun r hr h92 => ?_, fun j hj => ?_⟩
            · have hr' := hr
              simp only [List.mem_cons, List.not_mem_nil, or_false, not_or] at hr'
              rw [s2 r hr'.2]
              exact W2.1 r hr h92
            · rw [s2 92 (by decide)]
              exact W2.2 j hj
          have e46 : Rs n U (μ1 46) := by rw [f2 46 (by decide)]; exact R1
          have e45 : μ1 45 0 = zi (n : Int) := by rw [f2 45 (by decide)]; exact hc
          have AQ := F_allU (d + 5) len n ν U μ1 q e46 e45 qn
          have AP := F_allU (d + 5) len n ν U μ1 p e46 e45 pn
          have sb := oB_b (oW U (q : Int) p) n10 (Nat.two_pow_pos n)
          have c0s : cls U 0 := fun x hx => by rw [Nat.zero_testBit] at hx; cases hx
          cases z1 : (au U n q n).testBit p with
          | true =>
            have e := ah_all pq ((au_ok hU qn pq).mp z1) _ 0 (Nat.le_refl _) (Nat.two_pow_pos n) c0s
            refine ⟨zi 1, μ1, μ3, ?_, ?_, keep μ3 W3, W3⟩
            · rw [B_X11_ahead]
              simp (disch := omega) only [B_X8_compare, F_X8_isSealing, hc, c0, B_X8_compare_5, c1, B_X8_compare_13, c2, f1, r1, B_X8_compare_25, AQ, B_X8_compare_35, zb_bit, z1, B_X11_ahead_9, zbi_some, zbl_some, zbv_some, zbi_none, zbl_none, zbv_none, zbi_ite, zbl_ite, zbv_ite, zbZ, zbO, zc_lt, zc_le, zc_ge, zc_gt, zc_eq, zk0, zk1, zk2, zk3, zk4, zk5, zk6, zk7, zk8, zk9, zk10, zk11, zk12, zk14, zk15, zk16, zk17, zk19, zk20, zk21, zk24, zk25, zk30, zk32, zk36, zk40, zk45, zk50, zk64, zk97, zk99, zk100, zk102, zk122, zk128, zk255, zk800, zk801, zk900, zk999, zk1000, zk1997, zk9999, zk10000, zk100000, zk99999, zk9999999, zk999999999, zk2147483647, zlc0, zlc1, zlc2, zlc3, zlc4, zlc23, zlc99, zlc100, zlc9999999, zlc999999999999, zlc1073741824, zi_neg, zi_add, zi_sub, zi_mul, zl_neg, zl_add, zl_sub, zl_mul, zi_toInt, zi_nat, zi_le, zi_lt, zi_eq, zl_le, zl_lt, zl_eq, zl_toInt, zl_of32, zi_of64, zi_div, zl_div, zmodI, ↓reduceIte, zTle, zFle, zTlt, zFlt, zTeq, zFeq, if_true, if_false, and_self, and_true, true_and, and_false, false_and, or_self, or_true, true_or, or_false, false_or, not_true_eq_false, not_false_eq_true, zcastA, zcastL, znatC, zab, Int.reduceAdd, Int.reduceSub, Int.reduceMul, Int.reduceNeg, Int.reduceToNat, Nat.reduceAdd]
            · rw [B_X12_ahead]
              simp (disch := omega) only [F_X12_isSeal, g52, c0', B_X12_ahead_10, c1', B_X12_ahead_18, c2, o1', B_X12_ahead_34, r2, s1, B_X12_ahead_47, e, zbi_some, zbl_some, zbv_some, zbi_none, zbl_none, zbv_none, zbi_ite, zbl_ite, zbv_ite, zbZ, zbO, zc_lt, zc_le, zc_ge, zc_gt, zc_eq, zk0, zk1, zk2, zk3, zk4, zk5, zk6, zk7, zk8, zk9, zk10, zk11, zk12, zk14, zk15, zk16, zk17, zk19, zk20, zk21, zk24, zk25, zk30, zk32, zk36, zk40, zk45, zk50, zk64, zk97, zk99, zk100, zk102, zk122, zk128, zk255, zk800, zk801, zk900, zk999, zk1000, zk1997, zk9999, zk10000, zk100000, zk99999, zk9999999, zk999999999, zk2147483647, zlc0, zlc1, zlc2, zlc3, zlc4, zlc23, zlc99, zlc100, zlc9999999, zlc999999999999, zlc1073741824, zi_neg, zi_add, zi_sub, zi_mul, zl_neg, zl_add, zl_sub, zl_mul, zi_toInt, zi_nat, zi_le, zi_lt, zi_eq, zl_le, zl_lt, zl_eq, zl_toInt, zl_of32, zi_of64, zi_div, zl_div, zmodI, ↓reduceIte, zTle, zFle, zTlt, zFlt, zTeq, zFeq, if_true, if_false, and_self, and_true, true_and, and_false, false_and, or_self, or_true, true_or, or_false, false_or, not_true_eq_false, not_false_eq_true, zcastA, zcastL, znatC, zab, Int.reduceAdd, Int.reduceSub, Int.reduceMul, Int.reduceNeg, Int.reduceToNat, Nat.reduceAdd]
          | false =>
            have nq : ¬ Wk U n q p := fun w => by
              rw [(au_ok hU qn pq).mpr w] at z1
              cases z1
            cases z2 : (au U n p n).testBit q with
            | true =>
              have e := ah_none pn pq ((au_ok hU pn (fun w => pq w.symm)).mp z2) _ 0 (Nat.le_refl _) (Nat.two_pow_pos n) c0s (Nat.zero_testBit _) (Nat.zero_testBit _)
              have ne : ¬ (0 : Int) = oB U n 0 := fun w => r2 w.symm
              refine ⟨zi 0, μ1, μ3, ?_, ?_, keep μ3 W3, W3⟩
              · rw [B_X11_ahead]
                simp (disch := omega) only [B_X8_compare, F_X8_isSealing, hc, c0, B_X8_compare_5, c1, B_X8_compare_13, c2, f1, r1, B_X8_compare_25, AQ, B_X8_compare_35, zb_bit, z1, Bool.false_eq_true, AP, B_X8_compare_49, z2, B_X11_ahead_9, zbi_some, zbl_some, zbv_some, zbi_none, zbl_none, zbv_none, zbi_ite, zbl_ite, zbv_ite, zbZ, zbO, zc_lt, zc_le, zc_ge, zc_gt, zc_eq, zk0, zk1, zk2, zk3, zk4, zk5, zk6, zk7, zk8, zk9, zk10, zk11, zk12, zk14, zk15, zk16, zk17, zk19, zk20, zk21, zk24, zk25, zk30, zk32, zk36, zk40, zk45, zk50, zk64, zk97, zk99, zk100, zk102, zk122, zk128, zk255, zk800, zk801, zk900, zk999, zk1000, zk1997, zk9999, zk10000, zk100000, zk99999, zk9999999, zk999999999, zk2147483647, zlc0, zlc1, zlc2, zlc3, zlc4, zlc23, zlc99, zlc100, zlc9999999, zlc999999999999, zlc1073741824, zi_neg, zi_add, zi_sub, zi_mul, zl_neg, zl_add, zl_sub, zl_mul, zi_toInt, zi_nat, zi_le, zi_lt, zi_eq, zl_le, zl_lt, zl_eq, zl_toInt, zl_of32, zi_of64, zi_div, zl_div, zmodI, ↓reduceIte, zTle, zFle, zTlt, zFlt, zTeq, zFeq, if_true, if_false, and_self, and_true, true_and, and_false, false_and, or_self, or_true, true_or, or_false, false_or, not_true_eq_false, not_false_eq_true, zcastA, zcastL, znatC, zab, Int.reduceAdd, Int.reduceSub, Int.reduceMul, Int.reduceNeg, Int.reduceToNat, Nat.reduceAdd]
              · rw [B_X12_ahead]
                simp (disch := omega) only [F_X12_isSeal, g52, c0', B_X12_ahead_10, c1', B_X12_ahead_18, c2, o1', B_X12_ahead_34, r2, s1, B_X12_ahead_47, e, ne, zbi_some, zbl_some, zbv_some, zbi_none, zbl_none, zbv_none, zbi_ite, zbl_ite, zbv_ite, zbZ, zbO, zc_lt, zc_le, zc_ge, zc_gt, zc_eq, zk0, zk1, zk2, zk3, zk4, zk5, zk6, zk7, zk8, zk9, zk10, zk11, zk12, zk14, zk15, zk16, zk17, zk19, zk20, zk21, zk24, zk25, zk30, zk32, zk36, zk40, zk45, zk50, zk64, zk97, zk99, zk100, zk102, zk122, zk128, zk255, zk800, zk801, zk900, zk999, zk1000, zk1997, zk9999, zk10000, zk100000, zk99999, zk9999999, zk999999999, zk2147483647, zlc0, zlc1, zlc2, zlc3, zlc4, zlc23, zlc99, zlc100, zlc9999999, zlc999999999999, zlc1073741824, zi_neg, zi_add, zi_sub, zi_mul, zl_neg, zl_add, zl_sub, zl_mul, zi_toInt, zi_nat, zi_le, zi_lt, zi_eq, zl_le, zl_lt, zl_eq, zl_toInt, zl_of32, zi_of64, zi_div, zl_div, zmodI, ↓reduceIte, zTle, zFle, zTlt, zFlt, zTeq, zFeq, if_true, if_false, and_self, and_true, true_and, and_false, false_and, or_self, or_true, true_or, or_false, false_or, not_true_eq_false, not_false_eq_true, zcastA, zcastL, znatC, zab, Int.reduceAdd, Int.reduceSub, Int.reduceMul, Int.reduceNeg, Int.reduceToNat, Nat.reduceAdd]
            | false =>
              have np : ¬ Wk U n p q := fun w => by
                rw [(au_ok hU pn (fun w => pq w.symm)).mpr w] at z2
                cases z2
              have e1 := ah_some pn r2 np
              have e2 := ah_some qn r2 nq
              have e3 := ah_two (U := U) pn pq _ 0 (Nat.le_refl _) (Nat.two_pow_pos n) (Nat.zero_testBit _) (Nat.zero_testBit _)
              have e4 := oB_nn (oW U (p : Int) q) n _ 0 (Nat.le_refl _)
              have ne : ¬ oB (oW U (q : Int) p) n 0 = oB U n 0 := by omega
              refine ⟨zi 2, μ1, μ3, ?_, ?_, keep μ3 W3, W3⟩
              · rw [B_X11_ahead]
                simp (disch := omega) only [B_X8_compare, F_X8_isSealing, hc, c0, B_X8_compare_5, c1, B_X8_compare_13, c2, f1, r1, B_X8_compare_25, AQ, B_X8_compare_35, zb_bit, z1, Bool.false_eq_true, AP, B_X8_compare_49, z2, B_X11_ahead_9, zbi_some, zbl_some, zbv_some, zbi_none, zbl_none, zbv_none, zbi_ite, zbl_ite, zbv_ite, zbZ, zbO, zc_lt, zc_le, zc_ge, zc_gt, zc_eq, zk0, zk1, zk2, zk3, zk4, zk5, zk6, zk7, zk8, zk9, zk10, zk11, zk12, zk14, zk15, zk16, zk17, zk19, zk20, zk21, zk24, zk25, zk30, zk32, zk36, zk40, zk45, zk50, zk64, zk97, zk99, zk100, zk102, zk122, zk128, zk255, zk800, zk801, zk900, zk999, zk1000, zk1997, zk9999, zk10000, zk100000, zk99999, zk9999999, zk999999999, zk2147483647, zlc0, zlc1, zlc2, zlc3, zlc4, zlc23, zlc99, zlc100, zlc9999999, zlc999999999999, zlc1073741824, zi_neg, zi_add, zi_sub, zi_mul, zl_neg, zl_add, zl_sub, zl_mul, zi_toInt, zi_nat, zi_le, zi_lt, zi_eq, zl_le, zl_lt, zl_eq, zl_toInt, zl_of32, zi_of64, zi_div, zl_div, zmodI, ↓reduceIte, zTle, zFle, zTlt, zFlt, zTeq, zFeq, if_true, if_false, and_self, and_true, true_and, and_false, false_and, or_self, or_true, true_or, or_false, false_or, not_true_eq_false, not_false_eq_true, zcastA, zcastL, znatC, zab, Int.reduceAdd, Int.reduceSub, Int.reduceMul, Int.reduceNeg, Int.reduceToNat, Nat.reduceAdd]
              · rw [B_X12_ahead]
                simp (disch := omega) only [F_X12_isSeal, g52, c0', B_X12_ahead_10, c1', B_X12_ahead_18, c2, o1', B_X12_ahead_34, r2, s1, B_X12_ahead_47, e1, ne, zbi_some, zbl_some, zbv_some, zbi_none, zbl_none, zbv_none, zbi_ite, zbl_ite, zbv_ite, zbZ, zbO, zc_lt, zc_le, zc_ge, zc_gt, zc_eq, zk0, zk1, zk2, zk3, zk4, zk5, zk6, zk7, zk8, zk9, zk10, zk11, zk12, zk14, zk15, zk16, zk17, zk19, zk20, zk21, zk24, zk25, zk30, zk32, zk36, zk40, zk45, zk50, zk64, zk97, zk99, zk100, zk102, zk122, zk128, zk255, zk800, zk801, zk900, zk999, zk1000, zk1997, zk9999, zk10000, zk100000, zk99999, zk9999999, zk999999999, zk2147483647, zlc0, zlc1, zlc2, zlc3, zlc4, zlc23, zlc99, zlc100, zlc9999999, zlc999999999999, zlc1073741824, zi_neg, zi_add, zi_sub, zi_mul, zl_neg, zl_add, zl_sub, zl_mul, zi_toInt, zi_nat, zi_le, zi_lt, zi_eq, zl_le, zl_lt, zl_eq, zl_toInt, zl_of32, zi_of64, zi_div, zl_div, zmodI, ↓reduceIte, zTle, zFle, zTlt, zFlt, zTeq, zFeq, if_true, if_false, and_self, and_true, true_and, and_false, false_and, or_self, or_true, true_or, or_false, false_or, not_true_eq_false, not_false_eq_true, zcastA, zcastL, znatC, zab, Int.reduceAdd, Int.reduceSub, Int.reduceMul, Int.reduceNeg, Int.reduceToNat, Nat.reduceAdd]
        · refine ⟨zi (-1), μ1, μ2, ?_, ?_, keep μ2 W2, W2⟩
          · rw [B_X11_ahead]
            simp (disch := omega) only [B_X8_compare, F_X8_isSealing, hc, c0, B_X8_compare_5, c1, B_X8_compare_13, c2, f1, r1, B_X8_compare_25, B_X11_ahead_9, zbi_some, zbl_some, zbv_some, zbi_none, zbl_none, zbv_none, zbi_ite, zbl_ite, zbv_ite, zbZ, zbO, zc_lt, zc_le, zc_ge, zc_gt, zc_eq, zk0, zk1, zk2, zk3, zk4, zk5, zk6, zk7, zk8, zk9, zk10, zk11, zk12, zk14, zk15, zk16, zk17, zk19, zk20, zk21, zk24, zk25, zk30, zk32, zk36, zk40, zk45, zk50, zk64, zk97, zk99, zk100, zk102, zk122, zk128, zk255, zk800, zk801, zk900, zk999, zk1000, zk1997, zk9999, zk10000, zk100000, zk99999, zk9999999, zk999999999, zk2147483647, zlc0, zlc1, zlc2, zlc3, zlc4, zlc23, zlc99, zlc100, zlc9999999, zlc999999999999, zlc1073741824, zi_neg, zi_add, zi_sub, zi_mul, zl_neg, zl_add, zl_sub, zl_mul, zi_toInt, zi_nat, zi_le, zi_lt, zi_eq, zl_le, zl_lt, zl_eq, zl_toInt, zl_of32, zi_of64, zi_div, zl_div, zmodI, ↓reduceIte, zTle, zFle, zTlt, zFlt, zTeq, zFeq, if_true, if_false, and_self, and_true, true_and, and_false, false_and, or_self, or_true, true_or, or_false, false_or, not_true_eq_false, not_false_eq_true, zcastA, zcastL, znatC, zab, Int.reduceAdd, Int.reduceSub, Int.reduceMul, Int.reduceNeg, Int.reduceToNat, Nat.reduceAdd]
          · rw [B_X12_ahead]
            simp (disch := omega) only [F_X12_isSeal, g52, c0', B_X12_ahead_10, c1', B_X12_ahead_18, c2, o1', B_X12_ahead_34, r2, zbi_some, zbl_some, zbv_some, zbi_none, zbl_none, zbv_none, zbi_ite, zbl_ite, zbv_ite, zbZ, zbO, zc_lt, zc_le, zc_ge, zc_gt, zc_eq, zk0, zk1, zk2, zk3, zk4, zk5, zk6, zk7, zk8, zk9, zk10, zk11, zk12, zk14, zk15, zk16, zk17, zk19, zk20, zk21, zk24, zk25, zk30, zk32, zk36, zk40, zk45, zk50, zk64, zk97, zk99, zk100, zk102, zk122, zk128, zk255, zk800, zk801, zk900, zk999, zk1000, zk1997, zk9999, zk10000, zk100000, zk99999, zk9999999, zk999999999, zk2147483647, zlc0, zlc1, zlc2, zlc3, zlc4, zlc23, zlc99, zlc100, zlc9999999, zlc999999999999, zlc1073741824, zi_neg, zi_add, zi_sub, zi_mul, zl_neg, zl_add, zl_sub, zl_mul, zi_toInt, zi_nat, zi_le, zi_lt, zi_eq, zl_le, zl_lt, zl_eq, zl_toInt, zl_of32, zi_of64, zi_div, zl_div, zmodI, ↓reduceIte, zTle, zFle, zTlt, zFlt, zTeq, zFeq, if_true, if_false, and_self, and_true, true_and, and_false, false_and, or_self, or_true, true_or, or_false, false_or, not_true_eq_false, not_false_eq_true, zcastA, zcastL, znatC, zab, Int.reduceAdd, Int.reduceSub, Int.reduceMul, Int.reduceNeg, Int.reduceToNat, Nat.reduceAdd]
    · have c1' : ¬ (0 ≤ b ∧ b < (n : Int)) := by omega
      refine ⟨zi (-1), μ, zup μ 92 0 (zi 0), ?_, ?_, hRR, zfr_92 (zfr_rf _ _ _) (by decide)⟩
      · rw [B_X11_ahead]
        simp (disch := omega) only [B_X8_compare, F_X8_isSealing, hc, c0, B_X8_compare_5, c1, B_X8_compare_13, B_X11_ahead_9, zbi_some, zbl_some, zbv_some, zbi_none, zbl_none, zbv_none, zbi_ite, zbl_ite, zbv_ite, zbZ, zbO, zc_lt, zc_le, zc_ge, zc_gt, zc_eq, zk0, zk1, zk2, zk3, zk4, zk5, zk6, zk7, zk8, zk9, zk10, zk11, zk12, zk14, zk15, zk16, zk17, zk19, zk20, zk21, zk24, zk25, zk30, zk32, zk36, zk40, zk45, zk50, zk64, zk97, zk99, zk100, zk102, zk122, zk128, zk255, zk800, zk801, zk900, zk999, zk1000, zk1997, zk9999, zk10000, zk100000, zk99999, zk9999999, zk999999999, zk2147483647, zlc0, zlc1, zlc2, zlc3, zlc4, zlc23, zlc99, zlc100, zlc9999999, zlc999999999999, zlc1073741824, zi_neg, zi_add, zi_sub, zi_mul, zl_neg, zl_add, zl_sub, zl_mul, zi_toInt, zi_nat, zi_le, zi_lt, zi_eq, zl_le, zl_lt, zl_eq, zl_toInt, zl_of32, zi_of64, zi_div, zl_div, zmodI, ↓reduceIte, zTle, zFle, zTlt, zFlt, zTeq, zFeq, if_true, if_false, and_self, and_true, true_and, and_false, false_and, or_self, or_true, true_or, or_false, false_or, not_true_eq_false, not_false_eq_true, zcastA, zcastL, znatC, zab, Int.reduceAdd, Int.reduceSub, Int.reduceMul, Int.reduceNeg, Int.reduceToNat, Nat.reduceAdd]
      · rw [B_X12_ahead]
        simp (disch := omega) only [F_X12_isSeal, er, c0', B_X12_ahead_10, c1', B_X12_ahead_18, zbi_some, zbl_some, zbv_some, zbi_none, zbl_none, zbv_none, zbi_ite, zbl_ite, zbv_ite, zbZ, zbO, zc_lt, zc_le, zc_ge, zc_gt, zc_eq, zk0, zk1, zk2, zk3, zk4, zk5, zk6, zk7, zk8, zk9, zk10, zk11, zk12, zk14, zk15, zk16, zk17, zk19, zk20, zk21, zk24, zk25, zk30, zk32, zk36, zk40, zk45, zk50, zk64, zk97, zk99, zk100, zk102, zk122, zk128, zk255, zk800, zk801, zk900, zk999, zk1000, zk1997, zk9999, zk10000, zk100000, zk99999, zk9999999, zk999999999, zk2147483647, zlc0, zlc1, zlc2, zlc3, zlc4, zlc23, zlc99, zlc100, zlc9999999, zlc999999999999, zlc1073741824, zi_neg, zi_add, zi_sub, zi_mul, zl_neg, zl_add, zl_sub, zl_mul, zi_toInt, zi_nat, zi_le, zi_lt, zi_eq, zl_le, zl_lt, zl_eq, zl_toInt, zl_of32, zi_of64, zi_div, zl_div, zmodI, ↓reduceIte, zTle, zFle, zTlt, zFlt, zTeq, zFeq, if_true, if_false, and_self, and_true, true_and, and_false, false_and, or_self, or_true, true_or, or_false, false_or, not_true_eq_false, not_false_eq_true, zcastA, zcastL, znatC, zab, Int.reduceAdd, Int.reduceSub, Int.reduceMul, Int.reduceNeg, Int.reduceToNat, Nat.reduceAdd]
  · have c0' : ¬ (0 ≤ a ∧ a < (n : Int)) := by omega
    refine ⟨zi (-1), μ, zup μ 92 0 (zi 0), ?_, ?_, hRR, zfr_92 (zfr_rf _ _ _) (by decide)⟩
    · rw [B_X11_ahead]
      simp (disch := omega) only [B_X8_compare, F_X8_isSealing, hc, c0, B_X8_compare_5, B_X11_ahead_9, zbi_some, zbl_some, zbv_some, zbi_none, zbl_none, zbv_none, zbi_ite, zbl_ite, zbv_ite, zbZ, zbO, zc_lt, zc_le, zc_ge, zc_gt, zc_eq, zk0, zk1, zk2, zk3, zk4, zk5, zk6, zk7, zk8, zk9, zk10, zk11, zk12, zk14, zk15, zk16, zk17, zk19, zk20, zk21, zk24, zk25, zk30, zk32, zk36, zk40, zk45, zk50, zk64, zk97, zk99, zk100, zk102, zk122, zk128, zk255, zk800, zk801, zk900, zk999, zk1000, zk1997, zk9999, zk10000, zk100000, zk99999, zk9999999, zk999999999, zk2147483647, zlc0, zlc1, zlc2, zlc3, zlc4, zlc23, zlc99, zlc100, zlc9999999, zlc999999999999, zlc1073741824, zi_neg, zi_add, zi_sub, zi_mul, zl_neg, zl_add, zl_sub, zl_mul, zi_toInt, zi_nat, zi_le, zi_lt, zi_eq, zl_le, zl_lt, zl_eq, zl_toInt, zl_of32, zi_of64, zi_div, zl_div, zmodI, ↓reduceIte, zTle, zFle, zTlt, zFlt, zTeq, zFeq, if_true, if_false, and_self, and_true, true_and, and_false, false_and, or_self, or_true, true_or, or_false, false_or, not_true_eq_false, not_false_eq_true, zcastA, zcastL, znatC, zab, Int.reduceAdd, Int.reduceSub, Int.reduceMul, Int.reduceNeg, Int.reduceToNat, Nat.reduceAdd]
    · rw [B_X12_ahead]
      simp (disch := omega) only [F_X12_isSeal, er, c0', B_X12_ahead_10, zbi_some, zbl_some, zbv_some, zbi_none, zbl_none, zbv_none, zbi_ite, zbl_ite, zbv_ite, zbZ, zbO, zc_lt, zc_le, zc_ge, zc_gt, zc_eq, zk0, zk1, zk2, zk3, zk4, zk5, zk6, zk7, zk8, zk9, zk10, zk11, zk12, zk14, zk15, zk16, zk17, zk19, zk20, zk21, zk24, zk25, zk30, zk32, zk36, zk40, zk45, zk50, zk64, zk97, zk99, zk100, zk102, zk122, zk128, zk255, zk800, zk801, zk900, zk999, zk1000, zk1997, zk9999, zk10000, zk100000, zk99999, zk9999999, zk999999999, zk2147483647, zlc0, zlc1, zlc2, zlc3, zlc4, zlc23, zlc99, zlc100, zlc9999999, zlc999999999999, zlc1073741824, zi_neg, zi_add, zi_sub, zi_mul, zl_neg, zl_add, zl_sub, zl_mul, zi_toInt, zi_nat, zi_le, zi_lt, zi_eq, zl_le, zl_lt, zl_eq, zl_toInt, zl_of32, zi_of64, zi_div, zl_div, zmodI, ↓reduceIte, zTle, zFle, zTlt, zFlt, zTeq, zFeq, if_true, if_false, and_self, and_true, true_and, and_false, false_and, or_self, or_true, true_or, or_false, false_or, not_true_eq_false, not_false_eq_true, zcastA, zcastL, znatC, zab, Int.reduceAdd, Int.reduceSub, Int.reduceMul, Int.reduceNeg, Int.reduceToNat, Nat.reduceAdd]

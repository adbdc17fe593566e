/-! ORDERS: the first one; and the counts by both sides -/
theorem sm_ge {f : Nat → Int} {k : Nat} : ∀ {n : Nat}, (∀ j, j < n → 0 ≤ f j) → k < n → f k ≤ sm n f
  | 0, _, h => by omega
  | n + 1, h, hk => by
    rw [sm_S]
    have h2 := h n (by omega)
    by_cases q : k = n
    · have h3 : 0 ≤ sm n f := sm_nn (fun j hj => h j (by omega))
      rw [q]
      omega
    · have := sm_ge (k := k) (fun j hj => h j (Nat.lt_succ_of_lt hj)) (show k < n by omega)
      omega
theorem oB_one {W : Nat → Nat} {n s p : Nat} (hs : s < 2 ^ n) (hp : p < n) (h : oE W s p = true) : oB W n (s ||| 2 ^ p) ≤ oB W n s := by
  have e := oB_eq W hs
  have g := sm_ge (f := fun p => if oE W s p = true then oB W n (s ||| 2 ^ p) else 0) (n := n) (k := p) (fun j _ => by
    show 0 ≤ if oE W s j = true then oB W n (s ||| 2 ^ j) else 0
    split
    · exact oB_nn W n _ _ (Nat.le_refl _)
    · exact Int.le_refl _) hp
  have g' : (if oE W s p = true then oB W n (s ||| 2 ^ p) else 0) ≤ _ := g
  rw [if_pos h] at g'
  by_cases q : s = 2 ^ n - 1
  · rw [if_pos q] at e
    omega
  · rw [if_neg q] at e
    omega
theorem oB_step {W : Nat → Nat} {n s : Nat} (hs : s < 2 ^ n) (h : oB W n s ≠ 0) (ha : s ≠ 2 ^ n - 1) : ∃ q, q < n ∧ oE W s q = true ∧ oB W n (s ||| 2 ^ q) ≠ 0 := by
  refine Classical.byContradiction (fun c => h ?_)
  rw [oB_eq W hs, if_neg ha, sm_congr (g := fun _ => 0) (fun p hp => ?_), sm_zero]
  · rfl
  · by_cases y : oE W s p = true
    · rw [if_pos y]
      by_cases z : oB W n (s ||| 2 ^ p) = 0
      · exact z
      · exact absurd ⟨p, hp, y, z⟩ c
    · rw [if_neg y]
theorem or_or (s p q : Nat) : s ||| 2 ^ p ||| 2 ^ q = s ||| 2 ^ q ||| 2 ^ p := by rw [Nat.or_assoc, Nat.or_assoc, Nat.or_comm (2 ^ p)]
theorem oE_or {W : Nat → Nat} {s p q : Nat} (hp : oE W s p = true) (h : p ≠ q) : oE W (s ||| 2 ^ q) p = true := by
  obtain ⟨h1, h2⟩ := oE_t.mp hp
  refine oE_t.mpr ⟨?_, fun i hi => ?_⟩
  · rw [or_bit, h1]
    simp
    exact fun z => h z.symm
  · rw [or_bit, h2 i hi]
    rfl
theorem oB_ex {W : Nat → Nat} {n : Nat} : ∀ (m s p : Nat), 2 ^ n - s ≤ m → s < 2 ^ n → p < n → oE W s p = true → oB W n s ≠ 0 → oB W n (s ||| 2 ^ p) ≠ 0
  | 0, s, p, hm, hs, _, _, _ => by omega
  | m + 1, s, p, hm, hs, hp, h, h0 => by
    have ha : s ≠ 2 ^ n - 1 := fun z => by
      have := (oE_t.mp h).1
      rw [z, all_bit] at this
      simp at this
      omega
    obtain ⟨q, q1, q2, q3⟩ := oB_step hs h0 ha
    by_cases e : p = q
    · rw [e]
      exact q3
    · have l1 := lt_or (oE_t.mp q2).1
      have l2 := oB_ex m (s ||| 2 ^ q) p (by omega) (or_lt hs q1) hp (oE_or h e) q3
      have l3 := oB_one (or_lt hs hp) q1 (oE_or q2 (fun z => e z.symm))
      have l4 := oB_nn W n _ (s ||| 2 ^ p ||| 2 ^ q) (Nat.le_refl _)
      rw [or_or] at l2
      omega
/-- what is rolled after i, the least one that may come next each time -/
def gs (W : Nat → Nat) (n : Nat) : Nat → Nat
  | 0 => 0
  | i + 1 => gs W n i ||| 2 ^ lst (oE W (gs W n i)) n 0
def gk (W : Nat → Nat) (n i : Nat) : Nat := lst (oE W (gs W n i)) n 0
theorem mcN_0 (n : Nat) : mcN n 0 = n := by
  have e := mcN_eq n 0
  have z : ∀ k, sm k (fun p => if (0 : Nat).testBit p = true then (0 : Int) else 1) = (k : Int) := by
    intro k
    induction k with
    | zero => rfl
    | succ k ih =>
      rw [sm_S, ih, Nat.zero_testBit]
      rfl
  rw [z] at e
  omega
theorem mcN_all {n s : Nat} (hs : s < 2 ^ n) (h : mcN n s = 0) : s = 2 ^ n - 1 := by
  have e := mcN_eq n s
  rw [h] at e
  have z := sm_eq0 (n := n) (f := fun p => if s.testBit p = true then (0 : Int) else 1) (fun j _ => by split <;> omega) e.symm
  apply Nat.eq_of_testBit_eq
  intro i
  rw [all_bit]
  by_cases q : i < n
  · have := z i q
    cases w : s.testBit i with
    | true => simp [q]
    | false => rw [w] at this; simp at this
  · rw [bit_hi hs (by omega)]
    simp [q]
theorem all_mcN {n : Nat} : mcN n (2 ^ n - 1) = 0 := by
  have e := mcN_eq n (2 ^ n - 1)
  rw [sm_congr (g := fun _ => 0) (fun j hj => by rw [all_bit]; simp [hj]), sm_zero] at e
  omega
theorem gs_1 {W : Nat → Nat} {n i : Nat} (hs : gs W n i < 2 ^ n) (h : ∃ p, p < n ∧ oE W (gs W n i) p = true) : gk W n i < n ∧ oE W (gs W n i) (gk W n i) = true ∧ (∀ j, j < gk W n i → oE W (gs W n i) j = false) ∧ gs W n (i + 1) = gs W n i ||| 2 ^ gk W n i ∧ gs W n (i + 1) < 2 ^ n ∧ mcN n (gs W n (i + 1)) + 1 = mcN n (gs W n i) := by
  obtain ⟨p, hp, h⟩ := h
  obtain ⟨_, l2, l3, l4⟩ := lst_ok (P := oE W (gs W n i)) (n := n) (k := 0) (j := p) (by omega) (by omega) h
  have l2' : gk W n i < n := by unfold gk; omega
  exact ⟨l2', l3, fun j hj => l4 j (by omega) hj, rfl, or_lt hs l2', mcN_or l2' (oE_t.mp l3).1⟩
theorem gs_ok {W : Nat → Nat} {n : Nat} (h : oB W n 0 ≠ 0) : ∀ i, i ≤ n → gs W n i < 2 ^ n ∧ oB W n (gs W n i) ≠ 0 ∧ mcN n (gs W n i) + i = n ∧ (i < n → ∃ p, p < n ∧ oE W (gs W n i) p = true)
  | 0, _ => by
    have hp := Nat.two_pow_pos n
    refine ⟨hp, h, mcN_0 n, fun hn => ?_⟩
    obtain ⟨q, q1, q2, _⟩ := oB_step hp h (fun z => by
      have z' : (0 : Nat) = 2 ^ n - 1 := z
      have := all_mcN (n := n)
      rw [← z', mcN_0] at this
      omega)
    exact ⟨q, q1, q2⟩
  | i + 1, hi => by
    obtain ⟨a1, a2, a3, a4⟩ := gs_ok h i (by omega)
    obtain ⟨b1, b2, b3, b4, b5, b6⟩ := gs_1 a1 (a4 (by omega))
    have c2 : oB W n (gs W n (i + 1)) ≠ 0 := by
      rw [b4]
      exact oB_ex _ _ _ (Nat.le_refl _) a1 b1 b2 a2
    refine ⟨b5, c2, by omega, fun hn => ?_⟩
    obtain ⟨q, q1, q2, _⟩ := oB_step b5 c2 (fun z => by
      have := all_mcN (n := n)
      rw [← z] at this
      omega)
    exact ⟨q, q1, q2⟩
theorem gs_lt {W : Nat → Nat} {n : Nat} : ∀ i, (∀ j, j < i → ∃ p, p < n ∧ oE W (gs W n j) p = true) → gs W n i < 2 ^ n ∧ mcN n (gs W n i) + i = n
  | 0, _ => ⟨Nat.two_pow_pos n, mcN_0 n⟩
  | i + 1, h => by
    obtain ⟨a1, a2⟩ := gs_lt i (fun j hj => h j (by omega))
    obtain ⟨b1, b2, b3, b4, b5, b6⟩ := gs_1 a1 (h i (by omega))
    exact ⟨b5, by omega⟩
theorem gs_no {W : Nat → Nat} {n : Nat} (h : ∀ i, i < n → ∃ p, p < n ∧ oE W (gs W n i) p = true) : oB W n 0 ≠ 0 := by
  have down : ∀ i, i ≤ n → oB W n (gs W n i) ≠ 0 → oB W n 0 ≠ 0 := by
    intro i
    induction i with
    | zero => intro _ q; exact q
    | succ i ih =>
      intro hi q
      obtain ⟨a1, _⟩ := gs_lt i (fun j hj => h j (by omega))
      obtain ⟨b1, b2, b3, b4, b5, b6⟩ := gs_1 a1 (h i (by omega))
      refine ih (by omega) ?_
      have l1 := oB_one a1 b1 b2
      have l2 := oB_nn W n _ (gs W n (i + 1)) (Nat.le_refl _)
      rw [b4] at q l2
      omega
  obtain ⟨a1, a2⟩ := gs_lt n h
  refine down n (Nat.le_refl n) ?_
  have e := mcN_all a1 (by omega)
  rw [oB_eq W a1, if_pos e]
  have : 0 ≤ sm n (fun p => if oE W (gs W n n) p = true then oB W n (gs W n n ||| 2 ^ p) else 0) := sm_nn (fun j _ => by
    split
    · exact oB_nn W n _ _ (Nat.le_refl _)
    · exact Int.le_refl _)
  omega
/-- what the rows of the seals hold -/
def Rs (n : Nat) (U : Nat → Nat) (r : Nat → Int32) : Prop := n ≤ 10 ∧ ∀ p, r p = zi (U p : Int) ∧ U p < 2 ^ n ∧ (U p).testBit p = false
theorem ord_in (d len n : Nat) (ν : zNu) (U : Nat → Nat) (μ : zMu) (set : Nat) (hR : Rs n U (μ 46)) (hc : μ 45 0 = zi (n : Int)) (hs : set < 2 ^ n) (h0 : 1 ≤ set) (x1 : Int32) (v3 v4 : Value) (hq : ∀ s, s < set → μ 47 s = zi (oA U n s)) : ∃ v4' : Value, zE zc_X8_countOrders (zF zT0 d) 30 [.ref 45, .int x1, .int (zi (set : Int)), .int (zi 0), v4] [] (zm len (zrw μ 47 (upd (μ 47) set (zi 0))) ν) = zE zc_X8_countOrders (zF zT0 d) 16 [.ref 45, .int x1, .int (zi ((set + 1 : Nat) : Int)), .int (zi (n : Int)), v4'] [] (zm len (zrw μ 47 (upd (μ 47) set (zi (oA U n set)))) ν) := by
  have hp : 2 ^ n ≤ 2 ^ 10 := Nat.pow_le_pow_right (by decide) hR.1
  have n10 := hR.1
  obtain ⟨F, hF⟩ : ∃ F : Nat → Int, F = (fun q => if set.testBit q = true ∧ sdf (U q) (sdf set (2 ^ q)) = 0 then oA U n (sdf set (2 ^ q)) else 0) := ⟨_, rfl⟩
  have K := zloopV (f := fun p v => zE zc_X8_countOrders (zF zT0 d) 30 [.ref 45, .int x1, .int (zi (set : Int)), .int (zi (p : Int)), v] [] (zm len (zrw μ 47 (upd (μ 47) set (zi (sm p F)))) ν)) (n := n) (fun p v hp => by
    have u := hR.2 p
    have e45 : ∀ f, (zrw μ 47 f) 45 0 = zi (n : Int) := fun f => by rw [zrw_n _ _ (by decide)]; exact hc
    have e46 : ∀ f, (zrw μ 47 f) 46 p = zi (U p : Int) := fun f => by rw [zrw_n _ _ (by decide)]; exact u.1
    have ls := sdf_le set (2 ^ p)
    refine ⟨.int (zi (sdf set (2 ^ p) : Int)), ?_⟩
    show zE _ _ _ _ _ _ = zE _ _ _ _ _ _
    rw [B_X8_countOrders_30, sm_S]
    cases q : set.testBit p with
    | false =>
      have es := sdf_eq q
      have f0 : F p = 0 := by rw [hF]; exact if_neg (fun z => by have := z.1; rw [q] at this; cases this)
      rw [f0, Int.add_zero]
      simp (disch := omega) only [e45, zb_shl, zb_not, es, B_X8_countOrders_83, zbi_some, zbl_some, zbv_some, zbi_none, zbl_none, zbv_none, zbi_ite, zbl_ite, zbv_ite, zbZ, zbO, zc_lt, zc_le, zc_ge, zc_gt, zc_eq, zk0, zk1, zk2, zk3, zk4, zk5, zk6, zk7, zk8, zk9, zk10, zk11, zk12, zk14, zk15, zk16, zk17, zk19, zk20, zk21, zk24, zk25, zk30, zk32, zk36, zk40, zk45, zk50, zk64, zk97, zk99, zk100, zk102, zk122, zk128, zk255, zk800, zk801, zk900, zk999, zk1000, zk1997, zk9999, zk10000, zk100000, zk99999, zk9999999, zk999999999, zk2147483647, zlc0, zlc1, zlc2, zlc3, zlc4, zlc23, zlc99, zlc100, zlc9999999, zlc999999999999, zlc1073741824, zi_neg, zi_add, zi_sub, zi_mul, zl_neg, zl_add, zl_sub, zl_mul, zi_toInt, zi_nat, zi_le, zi_lt, zi_eq, zl_le, zl_lt, zl_eq, zl_toInt, zl_of32, zi_of64, zi_div, zl_div, zmodI, ↓reduceIte, zTle, zFle, zTlt, zFlt, zTeq, zFeq, if_true, if_false, and_self, and_true, true_and, and_false, false_and, or_self, or_true, true_or, or_false, false_or, not_true_eq_false, not_false_eq_true, zcastA, zcastL, znatC, zab, Int.reduceAdd, Int.reduceSub, Int.reduceMul, Int.reduceNeg, Int.reduceToNat, Nat.reduceAdd]
    | true =>
      have lt := sdf_lt q
      have ne : ¬ ((sdf set (2 ^ p) : Nat) : Int) = (set : Int) := by omega
      by_cases z : sdf (U p) (sdf set (2 ^ p)) = 0
      · have r1 : ∀ f, (zrw μ 47 f) 47 = f := fun f => zrw_s _ _ _
        have r2 : μ 47 (sdf set (2 ^ p)) = zi (oA U n (sdf set (2 ^ p))) := hq _ lt
        have r3 : ∀ x, upd (μ 47) set x (sdf set (2 ^ p)) = zi (oA U n (sdf set (2 ^ p))) := fun x => by rw [upd_ne _ _ (by omega)]; exact r2
        have f0 : F p = oA U n (sdf set (2 ^ p)) := by rw [hF]; exact if_pos ⟨q, z⟩
        rw [f0]
        simp (disch := omega) only [e45, zb_shl, zb_not, ne, e46, z, r1, upd_eq, r3, zup_zrw, upd_upd, B_X8_countOrders_83, zbi_some, zbl_some, zbv_some, zbi_none, zbl_none, zbv_none, zbi_ite, zbl_ite, zbv_ite, zbZ, zbO, zc_lt, zc_le, zc_ge, zc_gt, zc_eq, zk0, zk1, zk2, zk3, zk4, zk5, zk6, zk7, zk8, zk9, zk10, zk11, zk12, zk14, zk15, zk16, zk17, zk19, zk20, zk21, zk24, zk25, zk30, zk32, zk36, zk40, zk45, zk50, zk64, zk97, zk99, zk100, zk102, zk122, zk128, zk255, zk800, zk801, zk900, zk999, zk1000, zk1997, zk9999, zk10000, zk100000, zk99999, zk9999999, zk999999999, zk2147483647, zlc0, zlc1, zlc2, zlc3, zlc4, zlc23, zlc99, zlc100, zlc9999999, zlc999999999999, zlc1073741824, zi_neg, zi_add, zi_sub, zi_mul, zl_neg, zl_add, zl_sub, zl_mul, zi_toInt, zi_nat, zi_le, zi_lt, zi_eq, zl_le, zl_lt, zl_eq, zl_toInt, zl_of32, zi_of64, zi_div, zl_div, zmodI, ↓reduceIte, zTle, zFle, zTlt, zFlt, zTeq, zFeq, if_true, if_false, and_self, and_true, true_and, and_false, false_and, or_self, or_true, true_or, or_false, false_or, not_true_eq_false, not_false_eq_true, zcastA, zcastL, znatC, zab, Int.reduceAdd, Int.reduceSub, Int.reduceMul, Int.reduceNeg, Int.reduceToNat, Nat.reduceAdd]
      · have le2 := sdf_le (U p) (sdf set (2 ^ p))
        have z' : ¬ ((sdf (U p) (sdf set (2 ^ p)) : Nat) : Int) = 0 := by omega
        have u2 := u.2.1
        have f0 : F p = 0 := by rw [hF]; exact if_neg (fun w => z w.2)
        rw [f0, Int.add_zero]
        simp (disch := omega) only [e45, zb_shl, zb_not, ne, e46, z', B_X8_countOrders_83, zbi_some, zbl_some, zbv_some, zbi_none, zbl_none, zbv_none, zbi_ite, zbl_ite, zbv_ite, zbZ, zbO, zc_lt, zc_le, zc_ge, zc_gt, zc_eq, zk0, zk1, zk2, zk3, zk4, zk5, zk6, zk7, zk8, zk9, zk10, zk11, zk12, zk14, zk15, zk16, zk17, zk19, zk20, zk21, zk24, zk25, zk30, zk32, zk36, zk40, zk45, zk50, zk64, zk97, zk99, zk100, zk102, zk122, zk128, zk255, zk800, zk801, zk900, zk999, zk1000, zk1997, zk9999, zk10000, zk100000, zk99999, zk9999999, zk999999999, zk2147483647, zlc0, zlc1, zlc2, zlc3, zlc4, zlc23, zlc99, zlc100, zlc9999999, zlc999999999999, zlc1073741824, zi_neg, zi_add, zi_sub, zi_mul, zl_neg, zl_add, zl_sub, zl_mul, zi_toInt, zi_nat, zi_le, zi_lt, zi_eq, zl_le, zl_lt, zl_eq, zl_toInt, zl_of32, zi_of64, zi_div, zl_div, zmodI, ↓reduceIte, zTle, zFle, zTlt, zFlt, zTeq, zFeq, if_true, if_false, and_self, and_true, true_and, and_false, false_and, or_self, or_true, true_or, or_false, false_or, not_true_eq_false, not_false_eq_true, zcastA, zcastL, znatC, zab, Int.reduceAdd, Int.reduceSub, Int.reduceMul, Int.reduceNeg, Int.reduceToNat, Nat.reduceAdd])
  obtain ⟨v', K1⟩ := K v4
  have eA : sm n F = oA U n set := by
    rw [oA_eq U n set, if_neg (by omega), Int.zero_add, hF]
  rw [eA] at K1
  have K0 : zE zc_X8_countOrders (zF zT0 d) 30 [.ref 45, .int x1, .int (zi (set : Int)), .int (zi 0), v4] [] (zm len (zrw μ 47 (upd (μ 47) set (zi 0))) ν) = zE zc_X8_countOrders (zF zT0 d) 30 [.ref 45, .int x1, .int (zi (set : Int)), .int (zi (n : Int)), v'] [] (zm len (zrw μ 47 (upd (μ 47) set (zi (oA U n set)))) ν) := K1
  refine ⟨v', K0.trans ?_⟩
  have e45 : ∀ f, (zrw μ 47 f) 45 0 = zi (n : Int) := fun f => by rw [zrw_n _ _ (by decide)]; exact hc
  rw [B_X8_countOrders_30]
  simp (disch := omega) only [e45, zbi_some, zbl_some, zbv_some, zbi_none, zbl_none, zbv_none, zbi_ite, zbl_ite, zbv_ite, zbZ, zbO, zc_lt, zc_le, zc_ge, zc_gt, zc_eq, zk0, zk1, zk2, zk3, zk4, zk5, zk6, zk7, zk8, zk9, zk10, zk11, zk12, zk14, zk15, zk16, zk17, zk19, zk20, zk21, zk24, zk25, zk30, zk32, zk36, zk40, zk45, zk50, zk64, zk97, zk99, zk100, zk102, zk122, zk128, zk255, zk800, zk801, zk900, zk999, zk1000, zk1997, zk9999, zk10000, zk100000, zk99999, zk9999999, zk999999999, zk2147483647, zlc0, zlc1, zlc2, zlc3, zlc4, zlc23, zlc99, zlc100, zlc9999999, zlc999999999999, zlc1073741824, zi_neg, zi_add, zi_sub, zi_mul, zl_neg, zl_add, zl_sub, zl_mul, zi_toInt, zi_nat, zi_le, zi_lt, zi_eq, zl_le, zl_lt, zl_eq, zl_toInt, zl_of32, zi_of64, zi_div, zl_div, zmodI, ↓reduceIte, zTle, zFle, zTlt, zFlt, zTeq, zFeq, if_true, if_false, and_self, and_true, true_and, and_false, false_and, or_self, or_true, true_or, or_false, false_or, not_true_eq_false, not_false_eq_true, zcastA, zcastL, znatC, zab, Int.reduceAdd, Int.reduceSub, Int.reduceMul, Int.reduceNeg, Int.reduceToNat, Nat.reduceAdd]
theorem ord_out (d len n : Nat) (ν : zNu) (U : Nat → Nat) (μ : zMu) (hR : Rs n U (μ 46)) (hc : μ 45 0 = zi (n : Int)) : ∀ (m set : Nat) (μ1 : zMu) (v3 v4 : Value), set + m = 2 ^ n → 1 ≤ set → (∀ r, r ≠ 47 → μ1 r = μ r) → (∀ s, s < set → μ1 47 s = zi (oA U n s)) → ∃ μ' : zMu, zE zc_X8_countOrders (zF zT0 d) 16 [.ref 45, .int (zi ((2 ^ n : Nat) : Int)), .int (zi (set : Int)), v3, v4] [] (zm len μ1 ν) = some (.int (zi (oA U n (2 ^ n - 1))), zm len μ' ν) ∧ ∀ r, r ≠ 47 → μ' r = μ r := by
  have hp : 2 ^ n ≤ 2 ^ 10 := Nat.pow_le_pow_right (by decide) hR.1
  obtain ⟨N, hN⟩ : ∃ N, N = 2 ^ n := ⟨_, rfl⟩
  rw [← hN] at hp
  intro m
  induction m with
  | zero =>
    intro set μ1 v3 v4 hm h1 e hq
    have e0 : set = N := by omega
    have hl := hq (N - 1) (by omega)
    have ix : ((N : Int) - 1).toNat = N - 1 := by omega
    refine ⟨μ1, ?_, e⟩
    rw [B_X8_countOrders_16, e0, ← hN]
    simp (disch := omega) only [ix, hl, zbi_some, zbl_some, zbv_some, zbi_none, zbl_none, zbv_none, zbi_ite, zbl_ite, zbv_ite, zbZ, zbO, zc_lt, zc_le, zc_ge, zc_gt, zc_eq, zk0, zk1, zk2, zk3, zk4, zk5, zk6, zk7, zk8, zk9, zk10, zk11, zk12, zk14, zk15, zk16, zk17, zk19, zk20, zk21, zk24, zk25, zk30, zk32, zk36, zk40, zk45, zk50, zk64, zk97, zk99, zk100, zk102, zk122, zk128, zk255, zk800, zk801, zk900, zk999, zk1000, zk1997, zk9999, zk10000, zk100000, zk99999, zk9999999, zk999999999, zk2147483647, zlc0, zlc1, zlc2, zlc3, zlc4, zlc23, zlc99, zlc100, zlc9999999, zlc999999999999, zlc1073741824, zi_neg, zi_add, zi_sub, zi_mul, zl_neg, zl_add, zl_sub, zl_mul, zi_toInt, zi_nat, zi_le, zi_lt, zi_eq, zl_le, zl_lt, zl_eq, zl_toInt, zl_of32, zi_of64, zi_div, zl_div, zmodI, ↓reduceIte, zTle, zFle, zTlt, zFlt, zTeq, zFeq, if_true, if_false, and_self, and_true, true_and, and_false, false_and, or_self, or_true, true_or, or_false, false_or, not_true_eq_false, not_false_eq_true, zcastA, zcastL, znatC, zab, Int.reduceAdd, Int.reduceSub, Int.reduceMul, Int.reduceNeg, Int.reduceToNat, Nat.reduceAdd]
  | succ m ih =>
    intro set μ1 v3 v4 hm h1 e hq
    have e46 : μ1 46 = μ 46 := e 46 (by decide)
    have e45 : μ1 45 = μ 45 := e 45 (by decide)
    obtain ⟨v', K⟩ := ord_in d len n ν U μ1 set (by rw [e46]; exact hR) (by rw [e45]; exact hc) (by omega) h1 (zi (N : Int)) v3 v4 hq
    obtain ⟨μ', a, b⟩ := ih (set + 1) (zrw μ1 47 (upd (μ1 47) set (zi (oA U n set)))) (.int (zi (n : Int))) v' (by omega) (by omega) (fun r h => by rw [zrw_n _ _ h]; exact e r h) (fun s hs => by
      rw [zrw_s]
      by_cases z : s = set
      · rw [z, upd_eq]
      · rw [upd_ne _ _ z]
        exact hq s (by omega))
    refine ⟨μ', ?_, b⟩
    rw [← a, ← hN, ← K, B_X8_countOrders_16]
    simp (disch := omega) only [zup_rw, zbi_some, zbl_some, zbv_some, zbi_none, zbl_none, zbv_none, zbi_ite, zbl_ite, zbv_ite, zbZ, zbO, zc_lt, zc_le, zc_ge, zc_gt, zc_eq, zk0, zk1, zk2, zk3, zk4, zk5, zk6, zk7, zk8, zk9, zk10, zk11, zk12, zk14, zk15, zk16, zk17, zk19, zk20, zk21, zk24, zk25, zk30, zk32, zk36, zk40, zk45, zk50, zk64, zk97, zk99, zk100, zk102, zk122, zk128, zk255, zk800, zk801, zk900, zk999, zk1000, zk1997, zk9999, zk10000, zk100000, zk99999, zk9999999, zk999999999, zk2147483647, zlc0, zlc1, zlc2, zlc3, zlc4, zlc23, zlc99, zlc100, zlc9999999, zlc999999999999, zlc1073741824, zi_neg, zi_add, zi_sub, zi_mul, zl_neg, zl_add, zl_sub, zl_mul, zi_toInt, zi_nat, zi_le, zi_lt, zi_eq, zl_le, zl_lt, zl_eq, zl_toInt, zl_of32, zi_of64, zi_div, zl_div, zmodI, ↓reduceIte, zTle, zFle, zTlt, zFlt, zTeq, zFeq, if_true, if_false, and_self, and_true, true_and, and_false, false_and, or_self, or_true, true_or, or_false, false_or, not_true_eq_false, not_false_eq_true, zcastA, zcastL, znatC, zab, Int.reduceAdd, Int.reduceSub, Int.reduceMul, Int.reduceNeg, Int.reduceToNat, Nat.reduceAdd]
theorem F_count (d len n : Nat) (ν : zNu) (U : Nat → Nat) (μ : zMu) (hR : Rs n U (μ 46)) (hc : μ 45 0 = zi (n : Int)) : ∃ μ' : zMu, zF zT0 (d + 1) 103 [.ref 45] (zm len μ ν) = some (.int (zi (oA U n (2 ^ n - 1))), zm len μ' ν) ∧ ∀ r, r ≠ 47 → μ' r = μ r := by
  have hp := Nat.two_pow_pos n
  have n10 := hR.1
  obtain ⟨μ', a, b⟩ := ord_out d len n ν U μ hR hc (2 ^ n - 1) 1 (zup μ 47 0 (zi 1)) zU zU (by omega) (Nat.le_refl _) (fun r h => by rw [zup_ne _ _ _ h]) (fun s hs => by
    have e : s = 0 := by omega
    have z : oA U n 0 = 1 := by
      rw [oA_eq U n 0, if_pos rfl, sm_congr (g := fun _ => 0) (fun p _ => if_neg (fun w => by have := w.1; rw [Nat.zero_testBit] at this; cases this)), sm_zero]
      rfl
    rw [e, z]
    rfl)
  have a' : zE zc_X8_countOrders (zF zT0 d) 16 [.ref 45, .int (zi ((2 ^ n : Nat) : Int)), .int (zi 1), zU, zU] [] (zm len (zup μ 47 0 (zi 1)) ν) = _ := a
  refine ⟨μ', ?_, b⟩
  rw [B_X8_countOrders, ← a']
  simp (disch := omega) only [hc, zb_shl, zbi_some, zbl_some, zbv_some, zbi_none, zbl_none, zbv_none, zbi_ite, zbl_ite, zbv_ite, zbZ, zbO, zc_lt, zc_le, zc_ge, zc_gt, zc_eq, zk0, zk1, zk2, zk3, zk4, zk5, zk6, zk7, zk8, zk9, zk10, zk11, zk12, zk14, zk15, zk16, zk17, zk19, zk20, zk21, zk24, zk25, zk30, zk32, zk36, zk40, zk45, zk50, zk64, zk97, zk99, zk100, zk102, zk122, zk128, zk255, zk800, zk801, zk900, zk999, zk1000, zk1997, zk9999, zk10000, zk100000, zk99999, zk9999999, zk999999999, zk2147483647, zlc0, zlc1, zlc2, zlc3, zlc4, zlc23, zlc99, zlc100, zlc9999999, zlc999999999999, zlc1073741824, zi_neg, zi_add, zi_sub, zi_mul, zl_neg, zl_add, zl_sub, zl_mul, zi_toInt, zi_nat, zi_le, zi_lt, zi_eq, zl_le, zl_lt, zl_eq, zl_toInt, zl_of32, zi_of64, zi_div, zl_div, zmodI, ↓reduceIte, zTle, zFle, zTlt, zFlt, zTeq, zFeq, if_true, if_false, and_self, and_true, true_and, and_false, false_and, or_self, or_true, true_or, or_false, false_or, not_true_eq_false, not_false_eq_true, zcastA, zcastL, znatC, zab, Int.reduceAdd, Int.reduceSub, Int.reduceMul, Int.reduceNeg, Int.reduceToNat, Nat.reduceAdd]
